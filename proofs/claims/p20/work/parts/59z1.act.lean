set_option maxHeartbeats 1500000 in
set_option maxRecDepth 20000 in
theorem sp_X6_anAct_g0 (L : Nat) (xs : Nat → Int32) (sio : Option Nat) (d : Nat) (dt : Nat → Nat → Int) (hI : InvC dt) (b : Nat → Int) (n t i : Nat) (hbb : mB (dt 85) (dt 79 12) = b) (hnn : dt 79 12 = (n : Int)) (hz : KZ (KF 0 b n) t) (ht : t ≤ 500) (hc : CUR 0 b n dt i) (hi : i ≤ t) (hn5 : n ≤ 500)  (h_p0 : dt 79 9 = 0) (h_p1 : 0 ≤ dt 79 10 ∧ dt 79 10 ≤ 24) : GO (am_XX L xs sio) (d + 9) 172 0 [some (.inr (.inr (some 79))), none] [] (SH, dt) (fun r w2 => ∃ dt2 : Nat → Nat → Int, w2 = (SH, dt2) ∧ InvC dt2 ∧ Fr [79, 82] dt dt2 ∧ ((r = some (.inl 0) ∧ (RSX 0 b n i dt2 0 ((gAF (KF 0 b n) (VF b n) (dt 79 10)) i)) ∧ (dt2 79 2 = dt 79 2) ∧ (dt2 79 9 = dt 79 9) ∧ (dt2 79 12 = dt 79 12)) ∨ (r = some (.inl 1) ∧ (RSX 0 b n i dt2 1 ((gAF (KF 0 b n) (VF b n) (dt 79 10)) i)) ∧ (dt 79 10 ≤ 23) ∧ (ARF (dt2 82) (dt 79 10) (KF 0 b n) (VF b n) i) ∧ (∀ j : Nat, (j : Int) < 5 * dt 79 10 → dt2 82 j = dt 82 j) ∧ (dt 79 15 + 1 ≤ dt2 79 15) ∧ (dt2 79 15 ≤ 500) ∧ (dt2 79 2 = dt 79 2) ∧ (dt2 79 9 = dt 79 9) ∧ (dt2 79 10 = dt 79 10) ∧ (dt2 79 11 = dt 79 11) ∧ (dt2 79 12 = dt 79 12) ∧ (dt2 79 17 = dt 79 17)))) := by
  have hF : Fr [79, 82] dt dt := Fr_refl
  have r1 : 0 ≤ dt 79 15 ∧ dt 79 15 ≤ 500 := InvC_get hI 79 15 rfl rfl
  have r2 : 0 ≤ dt 79 11 ∧ dt 79 11 ≤ 510 := InvC_get hI 79 11 rfl rfl
  have r3 : 0 ≤ dt 79 10 ∧ dt 79 10 ≤ 24 := InvC_get hI 79 10 rfl rfl
  have cr0 := hid (CUR_R hc (.inl rfl))
  have cd0 := CUR_d (hc)
  have cb0 := hid (CUR_b hc)
  have cv0 := hid (CUR_v hc)
  have ck0 := hid (KZ_lt (i := i) hz)
  have c10 := hc.1
  have r4 : (-2147483648) ≤ dt 79 14 ∧ dt 79 14 ≤ 2147483647 := InvC_get hI 79 14 rfl rfl
  refine go_toq PM172 (k := 4) (pc' := 8) (L' := [some (.inr (.inr (some 79))), none]) (st' := [.inl 28, .inl 20, .inl (dt 79 14)]) (w' := (SH, dt)) rfl ?_
  refine go_callq PM172 PM146 (Q' := _) rfl rfl rfl rfl (sp_X6_isIn L xs sio (d + 8) dt hI  (dt 79 14) (by first | exact bnd r4 (by decide) (by decide) | exact ⟨by fail, by fail⟩) 20 ⟨by decide, by decide⟩ 28 ⟨by decide, by decide⟩ ) ?_
  rintro _ _ ⟨rfl, h5⟩
  refine ⟨rfl, ?_⟩
  rcases h5 with ⟨rfl, h5⟩ | ⟨rfl, h5⟩
  · skip
    refine go_ifq PM172 (k := 4) (p1 := 35) (p2 := 29) (L' := [some (.inr (.inr (some 79))), none]) (st' := []) (w' := (SH, dt)) rfl (c_ne (a := dt 79 10) (b := 24) (by first | exact bnd r3 (by decide) (by decide) | exact ⟨by fail, by fail⟩) ⟨by decide, by decide⟩) (fun c6 => ?_) (fun c6 => ?_)
    · skip
      have qc6 : dt 79 10 ≤ 23 := by omega
      replace c6 := hid c6
      refine go_toq PM172 (k := 5) (pc' := 43) (L' := [some (.inr (.inr (some 79))), some (.inl ((dt 79 14) - 20))]) (st' := []) (w' := (SH, dt)) rfl ?_
      have u2_ := hid (And.intro (unhid cr0) (And.intro (unhid cb0) (And.intro (unhid cv0) (And.intro (unhid ck0) (unhid c6)))))
      have hc7 : (dt 79 14) - 20 = 0 ∨ (dt 79 14) - 20 = 1 ∨ (dt 79 14) - 20 = 2 ∨ (dt 79 14) - 20 = 3 ∨ (dt 79 14) - 20 = 4 ∨ (dt 79 14) - 20 = 5 ∨ (dt 79 14) - 20 = 6 ∨ (dt 79 14) - 20 = 7 ∨ (dt 79 14) - 20 = 8 := by omega
      rcases hc7 with hc7 | hc7 | hc7 | hc7 | hc7 | hc7 | hc7 | hc7 | hc7
      · rw [hc7]
        refine go_toq PM172 (k := 1) (pc' := 44) (L' := [some (.inr (.inr (some 79))), some (.inl 0)]) (st' := [.inr (.inr (some 79))]) (w' := (SH, dt)) rfl ?_
        refine go_callq PM172 PM159 (Q' := _) rfl rfl rfl rfl (sp_X6_next0_p0 L xs sio (d + 2) dt hI   (by first | exact True.intro | with_reducible assumption | exact unhid (by with_reducible assumption) | rfl | omega | trivial) (by first | exact True.intro | with_reducible assumption | exact unhid (by with_reducible assumption) | rfl | fail | trivial)) ?_
        rintro _ _ ⟨dt9, rfl, hI10, hF11, h8⟩
        refine ⟨rfl, ?_⟩
        have hF12 : Fr [79, 82] dt dt9 := Fr_tr hF hF11 (by decide)
        rcases h8 with ⟨rfl, h8⟩
        obtain ⟨h8_0, h8_1, h8_2, h8_3, h8_4, h8_5, h8_6, h8_7, h8_8⟩ := h8
        have w13 : dt9 79 2 = dt 79 2 := h8_2
        have w14 : dt9 79 9 = dt 79 9 := h8_3
        have w15 : dt9 79 10 = dt 79 10 := h8_4
        have w16 : dt9 79 11 = dt 79 11 := h8_5
        have w17 : dt9 79 12 = dt 79 12 := h8_6
        have w18 : dt9 79 17 = dt 79 17 := h8_7
        have w19 : dt9 79 20 = dt 79 20 := h8_8
        have BL20 : ∀ j : Nat, (j : Int) < 5 * dt 79 10 → dt9 82 j = dt 82 j := fun j hj => (hF11 82 (by decide) j).trans ((fun _ _ => rfl) j hj)
        have hq21 := h8_0
        rw [hbb, show (dt 79 12).toNat = n from (congrArg Int.toNat hnn).trans (Int.toNat_natCast n)] at hq21
        have hc22 : CUR 0 b n dt9 (i + 1) := CUR_n hc hq21
        have hi23 : i + 1 ≤ t := by (have z_ := unhid u2_; omega)
        have av24 : dt 79 15 + 1 ≤ dt 79 13 := by (have z_ := unhid u2_; omega)
        have kk_ : KF 0 b n i = 1000 := by (have z_ := unhid u2_; omega)
        have hp25 : (gAF (KF 0 b n) (VF b n) (dt 79 10)) i = (gAct (KF 0 b n) (VF b n) 0) (i + 1) := (rfl : (gAF (KF 0 b n) (VF b n) (dt 79 10)) i = (gAF (KF 0 b n) (VF b n) (dt 79 10)) i).trans (by show gAF _ _ _ _ = _; unfold gAF; rw [if_neg (by (have z_ := unhid u2_; omega)), if_neg (by (have z_ := unhid u2_; omega)), show (KF 0 b n) i - 1000 = 0 by first | with_reducible assumption | exact unhid (by with_reducible assumption) | (have z_ := unhid u2_; omega)])
        clear cr0 cb0 cd0 cv0 ck0
        have cr26 := hid (CUR_R hc22 (.inl rfl))
        have cd27 := CUR_d (hc22)
        have cb27 := hid (CUR_b hc22)
        have cv28 := hid (CUR_v hc22)
        have ck29 := hid (KZ_lt (i := (i + 1)) hz)
        have c130 := (hc22).1
        have ci31 := hi23
        clear h8_2 h8_3 h8_4 h8_5 h8_6 h8_7 h8_8
        have r32 : 0 ≤ dt9 79 10 ∧ dt9 79 10 ≤ 24 := InvC_get hI10 79 10 rfl rfl
        refine go_toq PM172 (k := 7) (pc' := 58) (L' := [some (.inr (.inr (some 79))), some (.inl 0)]) (st' := [.inl 0, .inl (5 * (dt9 79 10)), .inr (.inr (some 82))]) (w' := (SH, dt9)) rfl ?_
        have hI33 : InvC (u2 dt9 82 ((5 * (dt9 79 10)).toNat) 0) := InvC_u2 hI10 (lo := -2147483648) (hi := 2147483647) rfl rfl rfl (by decide) (by decide)
        have hF34 : Fr [79, 82] dt (u2 dt9 82 ((5 * (dt9 79 10)).toNat) 0) := Fr_u2 hF12 (by decide)
        have w35 : (u2 dt9 82 ((5 * (dt9 79 10)).toNat) 0) 79 2 = dt 79 2 := w13
        have w36 : (u2 dt9 82 ((5 * (dt9 79 10)).toNat) 0) 79 9 = dt 79 9 := w14
        have w37 : (u2 dt9 82 ((5 * (dt9 79 10)).toNat) 0) 79 10 = dt 79 10 := w15
        have w38 : (u2 dt9 82 ((5 * (dt9 79 10)).toNat) 0) 79 11 = dt 79 11 := w16
        have w39 : (u2 dt9 82 ((5 * (dt9 79 10)).toNat) 0) 79 12 = dt 79 12 := w17
        have w40 : (u2 dt9 82 ((5 * (dt9 79 10)).toNat) 0) 79 13 = dt9 79 13 := rfl
        have w41 : (u2 dt9 82 ((5 * (dt9 79 10)).toNat) 0) 79 14 = dt9 79 14 := rfl
        have w42 : (u2 dt9 82 ((5 * (dt9 79 10)).toNat) 0) 79 15 = dt9 79 15 := rfl
        have w43 : (u2 dt9 82 ((5 * (dt9 79 10)).toNat) 0) 79 16 = dt9 79 16 := rfl
        have w44 : (u2 dt9 82 ((5 * (dt9 79 10)).toNat) 0) 79 17 = dt 79 17 := w18
        have w45 : (u2 dt9 82 ((5 * (dt9 79 10)).toNat) 0) 79 18 = dt9 79 18 := rfl
        have w46 : (u2 dt9 82 ((5 * (dt9 79 10)).toNat) 0) 79 20 = dt 79 20 := w19
        have BL47 : ∀ j : Nat, (j : Int) < 5 * dt 79 10 → (u2 dt9 82 ((5 * (dt9 79 10)).toNat) 0) 82 j = dt 82 j := fun j hj => (u2_ne (by omega)).trans (BL20 j hj)
        have Y48 : (u2 dt9 82 ((5 * (dt9 79 10)).toNat) 0) 82 (5 * (dt 79 10)).toNat = 0 := by rw [show (5 * (dt 79 10)).toNat = (5 * (dt9 79 10)).toNat by first | with_reducible assumption | exact unhid (by with_reducible assumption) | omega]; exact u2_eq
        have hc49 : CUR 0 b n (u2 dt9 82 ((5 * (dt9 79 10)).toNat) 0) (i + 1) := CUR_sm hc22 rfl rfl rfl rfl
        refine go_smpq PM172 (L' := [some (.inr (.inr (some 79))), some (.inl 0)]) (st' := []) (w' := (SH, (u2 dt9 82 ((5 * (dt9 79 10)).toNat) 0))) rfl rfl (s_iast (n := 120) rfl ⟨by omega, by omega⟩ ⟨by decide, by decide⟩) ?_
        refine go_toq PM172 (k := 6) (pc' := 72) (L' := [some (.inr (.inr (some 79))), some (.inl 0)]) (st' := [.inl 3, .inl 1, .inr (.inr (some 79))]) (w' := (SH, (u2 dt9 82 ((5 * (dt9 79 10)).toNat) 0))) rfl ?_
        refine go_callq PM172 PM171 (Q' := _) rfl rfl rfl rfl (sp_X6_argument_g0 L xs sio (d + 0) (u2 dt9 82 ((5 * (dt9 79 10)).toNat) 0) hI33 b n t (i + 1) (by first | exact hbb | (rw [show (u2 dt9 82 ((5 * (dt9 79 10)).toNat) 0) 85 = dt 85 from funext (hF34 85 (by decide)), show (u2 dt9 82 ((5 * (dt9 79 10)).toNat) 0) 79 12 = dt 79 12 by first | with_reducible assumption | exact unhid (by with_reducible assumption) | fail]; exact hbb)) (by first | with_reducible assumption | exact unhid (by with_reducible assumption) | exact Eq.trans (by with_reducible assumption) hnn | fail) hz ht hc49 hi23 hn5 1 ⟨by decide, by decide⟩ 3 ⟨by decide, by decide⟩ (by first | exact True.intro | with_reducible assumption | exact unhid (by with_reducible assumption) | rfl | omega | trivial) (by first | exact True.intro | with_reducible assumption | exact unhid (by with_reducible assumption) | rfl | omega | trivial)) ?_
        rintro _ _ ⟨dt51, rfl, hI52, hF53, h50⟩
        refine ⟨rfl, ?_⟩
        have hF54 : Fr [79, 82] dt dt51 := Fr_tr hF34 hF53 (by decide)
        rcases h50 with ⟨rfl, h50⟩ | ⟨rfl, h50⟩
        · skip
          obtain ⟨h50_0, h50_1, h50_2, h50_3, h50_4⟩ := h50
          have w55 : dt51 79 2 = dt 79 2 := h50_1.trans w35
          have w56 : dt51 79 9 = dt 79 9 := h50_2.trans w36
          have w57 : dt51 79 10 = dt 79 10 := h50_3.trans w37
          have w58 : dt51 79 12 = dt 79 12 := h50_4.trans w39
          have fl59 := RSX_0 h50_0 rfl
          have fe60 : (gAF (KF 0 b n) (VF b n) (dt 79 10)) i = (gA (KF 0 b n) (VF b n) 3) (i + 1) := hp25.trans ((show (gAct (KF 0 b n) (VF b n) 0) (i + 1) = gB ((gA (KF 0 b n) (VF b n) 3) (i + 1)) (hA0 (KF 0 b n) (VF b n) 0 ((VF b n) (i + 1))) by exact hAc_n (by decide)).trans (gB_no fl59.1))
          clear h50_1 w35 h50_2 w36 h50_3 w37 h50_4 w39
          refine go_retq PM172 (k := 2) (r := some (.inl 0)) (w1 := (SH, dt51)) rfl ?_
          exact ⟨dt51, rfl, hI52, hF54, (Or.inl ⟨rfl, ⟨by exact RSX_f fe60 fl59 (by first | rfl | with_reducible assumption | exact unhid (by with_reducible assumption) | fail) (by first | rfl | with_reducible assumption | exact unhid (by with_reducible assumption) | fail), by first | exact True.intro | with_reducible assumption | exact unhid (by with_reducible assumption) | rfl | fail | trivial, by first | exact True.intro | with_reducible assumption | exact unhid (by with_reducible assumption) | rfl | fail | trivial, by first | exact True.intro | with_reducible assumption | exact unhid (by with_reducible assumption) | rfl | fail | trivial⟩⟩)⟩
        · skip
          obtain ⟨h50_0, h50_1, h50_2, h50_3, h50_4, h50_5, h50_6, h50_7, h50_8, h50_9, h50_10, h50_11⟩ := h50
          have w61 : dt51 79 2 = dt 79 2 := h50_5.trans w35
          have w62 : dt51 79 9 = dt 79 9 := h50_6.trans w36
          have w63 : dt51 79 10 = dt 79 10 := h50_7.trans w37
          have w64 : dt51 79 11 = dt 79 11 := h50_8.trans w38
          have w65 : dt51 79 12 = dt 79 12 := h50_9.trans w39
          have w66 : dt51 79 17 = dt 79 17 := h50_10.trans w44
          have w67 : dt51 79 20 = dt 79 20 := h50_11.trans w46
          have ee68 : (u2 dt9 82 ((5 * (dt9 79 10)).toNat) 0) 79 10 = dt 79 10 := by omega
          rw [ee68] at h50_1 h50_2
          have BL69 : ∀ j : Nat, (j : Int) < 5 * dt 79 10 → dt51 82 j = dt 82 j := fun j hj => (h50_2 j (by omega)).trans (BL47 j hj)
          have Y70 := (h50_2 _ (by omega)).trans Y48
          have Y71 := h50_1
          obtain ⟨j72, ej73, hc74⟩ := RSX_1 h50_0 (by decide)
          have hp75 : (gAF (KF 0 b n) (VF b n) (dt 79 10)) i = (hA0 (KF 0 b n) (VF b n) 0 ((VF b n) (i + 1))) j72 := hp25.trans ((show (gAct (KF 0 b n) (VF b n) 0) (i + 1) = gB ((gA (KF 0 b n) (VF b n) 3) (i + 1)) (hA0 (KF 0 b n) (VF b n) 0 ((VF b n) (i + 1))) by exact hAc_n (by decide)).trans (by rw [ej73]; exact gB_0))
          have hi76 : j72 ≤ t := by have z := gA_M (K := (KF 0 b n)) (V := (VF b n)) (m := 3) (i := (i + 1)) hz; rw [ej73] at z; have y := z rfl; simp only at y; omega
          clear cr26 cb27 cd27 cv28 ck29
          have cr77 := hid (CUR_R hc74 (.inl rfl))
          have cd78 := CUR_d (hc74)
          have cb78 := hid (CUR_b hc74)
          have cv79 := hid (CUR_v hc74)
          have ck80 := hid (KZ_lt (i := j72) hz)
          have c181 := (hc74).1
          have ci82 := hi76
          have ej83 : j72 = (i + 1) + 1 := by have z_ := gA_at (K := (KF 0 b n)) (V := (VF b n)) (m := 3) (i := (i + 1)) (by rw [ej73]); rw [ej73] at z_; exact z_
          clear h50_5 w35 h50_6 w36 h50_7 w37 h50_8 w38 h50_9 w39 h50_10 w44 h50_11 w46
          refine go_toq PM172 (k := 30) (pc' := 208) (L' := [some (.inr (.inr (some 79))), some (.inl 0)]) (st' := [.inl 159, .inr (.inr (some 79))]) (w' := (SH, dt51)) rfl ?_
          refine go_callq PM172 PM161 (Q' := _) rfl rfl rfl rfl (sp_X6_need0_g0 L xs sio (d + 1) dt51 hI52 b n t j72 (by first | exact hbb | (rw [show dt51 85 = dt 85 from funext (hF54 85 (by decide)), show dt51 79 12 = dt 79 12 by first | with_reducible assumption | exact unhid (by with_reducible assumption) | fail]; exact hbb)) (by first | with_reducible assumption | exact unhid (by with_reducible assumption) | exact Eq.trans (by with_reducible assumption) hnn | fail) hz ht hc74 hi76 hn5 159 ⟨by decide, by decide⟩ (by first | exact True.intro | with_reducible assumption | exact unhid (by with_reducible assumption) | rfl | omega | trivial)) ?_
          rintro _ _ ⟨dt85, rfl, hI86, hF87, h84⟩
          refine ⟨rfl, ?_⟩
          have hF88 : Fr [79, 82] dt dt85 := Fr_tr hF54 hF87 (by decide)
          rcases h84 with ⟨rfl, h84⟩ | ⟨rfl, h84⟩
          · skip
            obtain ⟨h84_0, h84_1, h84_2, h84_3, h84_4⟩ := h84
            have w89 : dt85 79 2 = dt 79 2 := h84_1.trans w61
            have w90 : dt85 79 9 = dt 79 9 := h84_2.trans w62
            have w91 : dt85 79 10 = dt 79 10 := h84_3.trans w63
            have w92 : dt85 79 12 = dt 79 12 := h84_4.trans w65
            have BL93 : ∀ j : Nat, (j : Int) < 5 * dt 79 10 → dt85 82 j = dt 82 j := fun j hj => (hF87 82 (by decide) j).trans (BL69 j hj)
            have Y94 := (hF87 82 (by decide) _).trans Y70
            have Y95 := (hF87 82 (by decide) _).trans Y71
            have fl96 := RSX_0 h84_0 rfl
            have fe97 : (gAF (KF 0 b n) (VF b n) (dt 79 10)) i = (gK (KF 0 b n) (159 - 100)) j72 := hp75.trans ((show (hA0 (KF 0 b n) (VF b n) 0 ((VF b n) (i + 1))) j72 = gB ((gK (KF 0 b n) (159 - 100)) j72) gOk by first | exact gB_id.symm | ((repeat (first | rw [hA0_n (by decide)] | rw [hA1_n (by decide)] | rw [hA2_n (by decide)] | rw [hA3_n (by decide)])); exact gB_id.symm)).trans (gB_no fl96.1))
            clear h84_1 w61 h84_2 w62 h84_3 h84_4 w65
            refine go_retq PM172 (k := 0) (r := some (.inl 0)) (w1 := (SH, dt85)) rfl ?_
            exact ⟨dt85, rfl, hI86, hF88, (Or.inl ⟨rfl, ⟨by exact RSX_f fe97 fl96 (by first | rfl | with_reducible assumption | exact unhid (by with_reducible assumption) | fail) (by first | rfl | with_reducible assumption | exact unhid (by with_reducible assumption) | fail), by first | exact True.intro | with_reducible assumption | exact unhid (by with_reducible assumption) | rfl | fail | trivial, by first | exact True.intro | with_reducible assumption | exact unhid (by with_reducible assumption) | rfl | fail | trivial, by first | exact True.intro | with_reducible assumption | exact unhid (by with_reducible assumption) | rfl | fail | trivial⟩⟩)⟩
          · skip
            obtain ⟨h84_0, h84_1, h84_2, h84_3, h84_4, h84_5, h84_6, h84_7, h84_8, h84_9⟩ := h84
            have w98 : dt85 79 2 = dt 79 2 := h84_3.trans w61
            have w99 : dt85 79 9 = dt 79 9 := h84_4.trans w62
            have w100 : dt85 79 10 = dt 79 10 := h84_5.trans w63
            have w101 : dt85 79 11 = dt 79 11 := h84_6.trans w64
            have w102 : dt85 79 12 = dt 79 12 := h84_7.trans w65
            have w103 : dt85 79 17 = dt 79 17 := h84_8.trans w66
            have w104 : dt85 79 20 = dt 79 20 := h84_9.trans w67
            have BL105 : ∀ j : Nat, (j : Int) < 5 * dt 79 10 → dt85 82 j = dt 82 j := fun j hj => (hF87 82 (by decide) j).trans (BL69 j hj)
            have Y106 := (hF87 82 (by decide) _).trans Y70
            have Y107 := (hF87 82 (by decide) _).trans Y71
            obtain ⟨j108, ej109, hc110⟩ := RSX_1 h84_0 (by decide)
            have hp111 : (gAF (KF 0 b n) (VF b n) (dt 79 10)) i = gOk j108 := hp75.trans ((show (hA0 (KF 0 b n) (VF b n) 0 ((VF b n) (i + 1))) j72 = gB ((gK (KF 0 b n) (159 - 100)) j72) gOk by first | exact gB_id.symm | ((repeat (first | rw [hA0_n (by decide)] | rw [hA1_n (by decide)] | rw [hA2_n (by decide)] | rw [hA3_n (by decide)])); exact gB_id.symm)).trans (by rw [ej109]; exact gB_0))
            have hi112 : j108 ≤ t := by have z := (fun (h : KZ (KF 0 b n) t) => gK_M (K := (KF 0 b n)) (k := 159 - 100) (i := j72) h (by decide)) hz; rw [ej109] at z; have y := z rfl; simp only at y; omega
            clear cr77 cb78 cd78 cv79 ck80
            have cr113 := hid (CUR_R hc110 (.inl rfl))
            have cd114 := CUR_d (hc110)
            have cb114 := hid (CUR_b hc110)
            have cv115 := hid (CUR_v hc110)
            have ck116 := hid (KZ_lt (i := j108) hz)
            have c1117 := (hc110).1
            have ci118 := hi112
            clear h84_3 w61 h84_4 w62 h84_5 h84_6 h84_7 w65 h84_8 w66 h84_9 w67
            refine go_retq PM172 (k := 0) (r := some (.inl 1)) (w1 := (SH, dt85)) rfl ?_
            exact ⟨dt85, rfl, hI86, hF88, (Or.inr ⟨rfl, ⟨by exact RSX_ok hp111 hc110, by first | exact True.intro | with_reducible assumption | exact unhid (by with_reducible assumption) | rfl | fail | trivial, by unfold ARF ATT ABB; exact ⟨by rw [Y106]; omega, Y107.trans (congrArg (VF b n) (by omega)), fun z_ => by (exfalso; omega), fun z_ => by (exfalso; omega), fun z_ => by (exfalso; omega), fun z_ => by (exfalso; omega)⟩, by exact BL105, by first | exact True.intro | with_reducible assumption | exact unhid (by with_reducible assumption) | rfl | omega | trivial, by exact (InvC_get (by assumption) 79 15 rfl rfl).2, by first | exact True.intro | with_reducible assumption | exact unhid (by with_reducible assumption) | rfl | fail | trivial, by first | exact True.intro | with_reducible assumption | exact unhid (by with_reducible assumption) | rfl | fail | trivial, by first | exact True.intro | with_reducible assumption | exact unhid (by with_reducible assumption) | rfl | fail | trivial, by first | exact True.intro | with_reducible assumption | exact unhid (by with_reducible assumption) | rfl | fail | trivial, by first | exact True.intro | with_reducible assumption | exact unhid (by with_reducible assumption) | rfl | fail | trivial, by first | exact True.intro | with_reducible assumption | exact unhid (by with_reducible assumption) | rfl | fail | trivial⟩⟩)⟩
      · rw [hc7]
        refine go_toq PM172 (k := 1) (pc' := 44) (L' := [some (.inr (.inr (some 79))), some (.inl 1)]) (st' := [.inr (.inr (some 79))]) (w' := (SH, dt)) rfl ?_
        refine go_callq PM172 PM159 (Q' := _) rfl rfl rfl rfl (sp_X6_next0_p0 L xs sio (d + 2) dt hI   (by first | exact True.intro | with_reducible assumption | exact unhid (by with_reducible assumption) | rfl | omega | trivial) (by first | exact True.intro | with_reducible assumption | exact unhid (by with_reducible assumption) | rfl | fail | trivial)) ?_
        rintro _ _ ⟨dt120, rfl, hI121, hF122, h119⟩
        refine ⟨rfl, ?_⟩
        have hF123 : Fr [79, 82] dt dt120 := Fr_tr hF hF122 (by decide)
        rcases h119 with ⟨rfl, h119⟩
        obtain ⟨h119_0, h119_1, h119_2, h119_3, h119_4, h119_5, h119_6, h119_7, h119_8⟩ := h119
        have w124 : dt120 79 2 = dt 79 2 := h119_2
        have w125 : dt120 79 9 = dt 79 9 := h119_3
        have w126 : dt120 79 10 = dt 79 10 := h119_4
        have w127 : dt120 79 11 = dt 79 11 := h119_5
        have w128 : dt120 79 12 = dt 79 12 := h119_6
        have w129 : dt120 79 17 = dt 79 17 := h119_7
        have w130 : dt120 79 20 = dt 79 20 := h119_8
        have BL131 : ∀ j : Nat, (j : Int) < 5 * dt 79 10 → dt120 82 j = dt 82 j := fun j hj => (hF122 82 (by decide) j).trans ((fun _ _ => rfl) j hj)
        have hq132 := h119_0
        rw [hbb, show (dt 79 12).toNat = n from (congrArg Int.toNat hnn).trans (Int.toNat_natCast n)] at hq132
        have hc133 : CUR 0 b n dt120 (i + 1) := CUR_n hc hq132
        have hi134 : i + 1 ≤ t := by (have z_ := unhid u2_; omega)
        have av135 : dt 79 15 + 1 ≤ dt 79 13 := by (have z_ := unhid u2_; omega)
        have kk_ : KF 0 b n i = 1001 := by (have z_ := unhid u2_; omega)
        have hp136 : (gAF (KF 0 b n) (VF b n) (dt 79 10)) i = (gAct (KF 0 b n) (VF b n) 1) (i + 1) := (rfl : (gAF (KF 0 b n) (VF b n) (dt 79 10)) i = (gAF (KF 0 b n) (VF b n) (dt 79 10)) i).trans (by show gAF _ _ _ _ = _; unfold gAF; rw [if_neg (by (have z_ := unhid u2_; omega)), if_neg (by (have z_ := unhid u2_; omega)), show (KF 0 b n) i - 1000 = 1 by first | with_reducible assumption | exact unhid (by with_reducible assumption) | (have z_ := unhid u2_; omega)])
        clear cr0 cb0 cd0 cv0 ck0
        have cr137 := hid (CUR_R hc133 (.inl rfl))
        have cd138 := CUR_d (hc133)
        have cb138 := hid (CUR_b hc133)
        have cv139 := hid (CUR_v hc133)
        have ck140 := hid (KZ_lt (i := (i + 1)) hz)
        have c1141 := (hc133).1
        have ci142 := hi134
        clear h119_2 h119_3 h119_4 h119_5 h119_6 h119_7 h119_8
        have r143 : 0 ≤ dt120 79 10 ∧ dt120 79 10 ≤ 24 := InvC_get hI121 79 10 rfl rfl
        refine go_toq PM172 (k := 7) (pc' := 58) (L' := [some (.inr (.inr (some 79))), some (.inl 1)]) (st' := [.inl 1, .inl (5 * (dt120 79 10)), .inr (.inr (some 82))]) (w' := (SH, dt120)) rfl ?_
        have hI144 : InvC (u2 dt120 82 ((5 * (dt120 79 10)).toNat) 1) := InvC_u2 hI121 (lo := -2147483648) (hi := 2147483647) rfl rfl rfl (by decide) (by decide)
        have hF145 : Fr [79, 82] dt (u2 dt120 82 ((5 * (dt120 79 10)).toNat) 1) := Fr_u2 hF123 (by decide)
        have w146 : (u2 dt120 82 ((5 * (dt120 79 10)).toNat) 1) 79 2 = dt 79 2 := w124
        have w147 : (u2 dt120 82 ((5 * (dt120 79 10)).toNat) 1) 79 9 = dt 79 9 := w125
        have w148 : (u2 dt120 82 ((5 * (dt120 79 10)).toNat) 1) 79 10 = dt 79 10 := w126
        have w149 : (u2 dt120 82 ((5 * (dt120 79 10)).toNat) 1) 79 11 = dt 79 11 := w127
        have w150 : (u2 dt120 82 ((5 * (dt120 79 10)).toNat) 1) 79 12 = dt 79 12 := w128
        have w151 : (u2 dt120 82 ((5 * (dt120 79 10)).toNat) 1) 79 13 = dt120 79 13 := rfl
        have w152 : (u2 dt120 82 ((5 * (dt120 79 10)).toNat) 1) 79 14 = dt120 79 14 := rfl
        have w153 : (u2 dt120 82 ((5 * (dt120 79 10)).toNat) 1) 79 15 = dt120 79 15 := rfl
        have w154 : (u2 dt120 82 ((5 * (dt120 79 10)).toNat) 1) 79 16 = dt120 79 16 := rfl
        have w155 : (u2 dt120 82 ((5 * (dt120 79 10)).toNat) 1) 79 17 = dt 79 17 := w129
        have w156 : (u2 dt120 82 ((5 * (dt120 79 10)).toNat) 1) 79 18 = dt120 79 18 := rfl
        have w157 : (u2 dt120 82 ((5 * (dt120 79 10)).toNat) 1) 79 20 = dt 79 20 := w130
        have BL158 : ∀ j : Nat, (j : Int) < 5 * dt 79 10 → (u2 dt120 82 ((5 * (dt120 79 10)).toNat) 1) 82 j = dt 82 j := fun j hj => (u2_ne (by omega)).trans (BL131 j hj)
        have Y159 : (u2 dt120 82 ((5 * (dt120 79 10)).toNat) 1) 82 (5 * (dt 79 10)).toNat = 1 := by rw [show (5 * (dt 79 10)).toNat = (5 * (dt120 79 10)).toNat by first | with_reducible assumption | exact unhid (by with_reducible assumption) | omega]; exact u2_eq
        have hc160 : CUR 0 b n (u2 dt120 82 ((5 * (dt120 79 10)).toNat) 1) (i + 1) := CUR_sm hc133 rfl rfl rfl rfl
        refine go_smpq PM172 (L' := [some (.inr (.inr (some 79))), some (.inl 1)]) (st' := []) (w' := (SH, (u2 dt120 82 ((5 * (dt120 79 10)).toNat) 1))) rfl rfl (s_iast (n := 120) rfl ⟨by omega, by omega⟩ ⟨by decide, by decide⟩) ?_
        refine go_toq PM172 (k := 6) (pc' := 72) (L' := [some (.inr (.inr (some 79))), some (.inl 1)]) (st' := [.inl 3, .inl 1, .inr (.inr (some 79))]) (w' := (SH, (u2 dt120 82 ((5 * (dt120 79 10)).toNat) 1))) rfl ?_
        refine go_callq PM172 PM171 (Q' := _) rfl rfl rfl rfl (sp_X6_argument_g0 L xs sio (d + 0) (u2 dt120 82 ((5 * (dt120 79 10)).toNat) 1) hI144 b n t (i + 1) (by first | exact hbb | (rw [show (u2 dt120 82 ((5 * (dt120 79 10)).toNat) 1) 85 = dt 85 from funext (hF145 85 (by decide)), show (u2 dt120 82 ((5 * (dt120 79 10)).toNat) 1) 79 12 = dt 79 12 by first | with_reducible assumption | exact unhid (by with_reducible assumption) | fail]; exact hbb)) (by first | with_reducible assumption | exact unhid (by with_reducible assumption) | exact Eq.trans (by with_reducible assumption) hnn | fail) hz ht hc160 hi134 hn5 1 ⟨by decide, by decide⟩ 3 ⟨by decide, by decide⟩ (by first | exact True.intro | with_reducible assumption | exact unhid (by with_reducible assumption) | rfl | omega | trivial) (by first | exact True.intro | with_reducible assumption | exact unhid (by with_reducible assumption) | rfl | omega | trivial)) ?_
        rintro _ _ ⟨dt162, rfl, hI163, hF164, h161⟩
        refine ⟨rfl, ?_⟩
        have hF165 : Fr [79, 82] dt dt162 := Fr_tr hF145 hF164 (by decide)
        rcases h161 with ⟨rfl, h161⟩ | ⟨rfl, h161⟩
        · skip
          obtain ⟨h161_0, h161_1, h161_2, h161_3, h161_4⟩ := h161
          have w166 : dt162 79 2 = dt 79 2 := h161_1.trans w146
          have w167 : dt162 79 9 = dt 79 9 := h161_2.trans w147
          have w168 : dt162 79 10 = dt 79 10 := h161_3.trans w148
          have w169 : dt162 79 12 = dt 79 12 := h161_4.trans w150
          have fl170 := RSX_0 h161_0 rfl
          have fe171 : (gAF (KF 0 b n) (VF b n) (dt 79 10)) i = (gA (KF 0 b n) (VF b n) 3) (i + 1) := hp136.trans ((show (gAct (KF 0 b n) (VF b n) 1) (i + 1) = gB ((gA (KF 0 b n) (VF b n) 3) (i + 1)) (hA0 (KF 0 b n) (VF b n) 1 ((VF b n) (i + 1))) by exact hAc_n (by decide)).trans (gB_no fl170.1))
          clear h161_1 w146 h161_2 w147 h161_3 w148 h161_4 w150
          refine go_retq PM172 (k := 2) (r := some (.inl 0)) (w1 := (SH, dt162)) rfl ?_
          exact ⟨dt162, rfl, hI163, hF165, (Or.inl ⟨rfl, ⟨by exact RSX_f fe171 fl170 (by first | rfl | with_reducible assumption | exact unhid (by with_reducible assumption) | fail) (by first | rfl | with_reducible assumption | exact unhid (by with_reducible assumption) | fail), by first | exact True.intro | with_reducible assumption | exact unhid (by with_reducible assumption) | rfl | fail | trivial, by first | exact True.intro | with_reducible assumption | exact unhid (by with_reducible assumption) | rfl | fail | trivial, by first | exact True.intro | with_reducible assumption | exact unhid (by with_reducible assumption) | rfl | fail | trivial⟩⟩)⟩
        · skip
          obtain ⟨h161_0, h161_1, h161_2, h161_3, h161_4, h161_5, h161_6, h161_7, h161_8, h161_9, h161_10, h161_11⟩ := h161
          have w172 : dt162 79 2 = dt 79 2 := h161_5.trans w146
          have w173 : dt162 79 9 = dt 79 9 := h161_6.trans w147
          have w174 : dt162 79 10 = dt 79 10 := h161_7.trans w148
          have w175 : dt162 79 11 = dt 79 11 := h161_8.trans w149
          have w176 : dt162 79 12 = dt 79 12 := h161_9.trans w150
          have w177 : dt162 79 17 = dt 79 17 := h161_10.trans w155
          have w178 : dt162 79 20 = dt 79 20 := h161_11.trans w157
          have ee179 : (u2 dt120 82 ((5 * (dt120 79 10)).toNat) 1) 79 10 = dt 79 10 := by omega
          rw [ee179] at h161_1 h161_2
          have BL180 : ∀ j : Nat, (j : Int) < 5 * dt 79 10 → dt162 82 j = dt 82 j := fun j hj => (h161_2 j (by omega)).trans (BL158 j hj)
          have Y181 := (h161_2 _ (by omega)).trans Y159
          have Y182 := h161_1
          obtain ⟨j183, ej184, hc185⟩ := RSX_1 h161_0 (by decide)
          have hp186 : (gAF (KF 0 b n) (VF b n) (dt 79 10)) i = (hA0 (KF 0 b n) (VF b n) 1 ((VF b n) (i + 1))) j183 := hp136.trans ((show (gAct (KF 0 b n) (VF b n) 1) (i + 1) = gB ((gA (KF 0 b n) (VF b n) 3) (i + 1)) (hA0 (KF 0 b n) (VF b n) 1 ((VF b n) (i + 1))) by exact hAc_n (by decide)).trans (by rw [ej184]; exact gB_0))
          have hi187 : j183 ≤ t := by have z := gA_M (K := (KF 0 b n)) (V := (VF b n)) (m := 3) (i := (i + 1)) hz; rw [ej184] at z; have y := z rfl; simp only at y; omega
          clear cr137 cb138 cd138 cv139 ck140
          have cr188 := hid (CUR_R hc185 (.inl rfl))
          have cd189 := CUR_d (hc185)
          have cb189 := hid (CUR_b hc185)
          have cv190 := hid (CUR_v hc185)
          have ck191 := hid (KZ_lt (i := j183) hz)
          have c1192 := (hc185).1
          have ci193 := hi187
          have ej194 : j183 = (i + 1) + 1 := by have z_ := gA_at (K := (KF 0 b n)) (V := (VF b n)) (m := 3) (i := (i + 1)) (by rw [ej184]); rw [ej184] at z_; exact z_
          clear h161_5 w146 h161_6 w147 h161_7 w148 h161_8 w149 h161_9 w150 h161_10 w155 h161_11 w157
          refine go_toq PM172 (k := 30) (pc' := 208) (L' := [some (.inr (.inr (some 79))), some (.inl 1)]) (st' := [.inl 159, .inr (.inr (some 79))]) (w' := (SH, dt162)) rfl ?_
          refine go_callq PM172 PM161 (Q' := _) rfl rfl rfl rfl (sp_X6_need0_g0 L xs sio (d + 1) dt162 hI163 b n t j183 (by first | exact hbb | (rw [show dt162 85 = dt 85 from funext (hF165 85 (by decide)), show dt162 79 12 = dt 79 12 by first | with_reducible assumption | exact unhid (by with_reducible assumption) | fail]; exact hbb)) (by first | with_reducible assumption | exact unhid (by with_reducible assumption) | exact Eq.trans (by with_reducible assumption) hnn | fail) hz ht hc185 hi187 hn5 159 ⟨by decide, by decide⟩ (by first | exact True.intro | with_reducible assumption | exact unhid (by with_reducible assumption) | rfl | omega | trivial)) ?_
          rintro _ _ ⟨dt196, rfl, hI197, hF198, h195⟩
          refine ⟨rfl, ?_⟩
          have hF199 : Fr [79, 82] dt dt196 := Fr_tr hF165 hF198 (by decide)
          rcases h195 with ⟨rfl, h195⟩ | ⟨rfl, h195⟩
          · skip
            obtain ⟨h195_0, h195_1, h195_2, h195_3, h195_4⟩ := h195
            have w200 : dt196 79 2 = dt 79 2 := h195_1.trans w172
            have w201 : dt196 79 9 = dt 79 9 := h195_2.trans w173
            have w202 : dt196 79 10 = dt 79 10 := h195_3.trans w174
            have w203 : dt196 79 12 = dt 79 12 := h195_4.trans w176
            have BL204 : ∀ j : Nat, (j : Int) < 5 * dt 79 10 → dt196 82 j = dt 82 j := fun j hj => (hF198 82 (by decide) j).trans (BL180 j hj)
            have Y205 := (hF198 82 (by decide) _).trans Y181
            have Y206 := (hF198 82 (by decide) _).trans Y182
            have fl207 := RSX_0 h195_0 rfl
            have fe208 : (gAF (KF 0 b n) (VF b n) (dt 79 10)) i = (gK (KF 0 b n) (159 - 100)) j183 := hp186.trans ((show (hA0 (KF 0 b n) (VF b n) 1 ((VF b n) (i + 1))) j183 = gB ((gK (KF 0 b n) (159 - 100)) j183) gOk by first | exact gB_id.symm | ((repeat (first | rw [hA0_n (by decide)] | rw [hA1_n (by decide)] | rw [hA2_n (by decide)] | rw [hA3_n (by decide)])); exact gB_id.symm)).trans (gB_no fl207.1))
            clear h195_1 w172 h195_2 w173 h195_3 h195_4 w176
            refine go_retq PM172 (k := 0) (r := some (.inl 0)) (w1 := (SH, dt196)) rfl ?_
            exact ⟨dt196, rfl, hI197, hF199, (Or.inl ⟨rfl, ⟨by exact RSX_f fe208 fl207 (by first | rfl | with_reducible assumption | exact unhid (by with_reducible assumption) | fail) (by first | rfl | with_reducible assumption | exact unhid (by with_reducible assumption) | fail), by first | exact True.intro | with_reducible assumption | exact unhid (by with_reducible assumption) | rfl | fail | trivial, by first | exact True.intro | with_reducible assumption | exact unhid (by with_reducible assumption) | rfl | fail | trivial, by first | exact True.intro | with_reducible assumption | exact unhid (by with_reducible assumption) | rfl | fail | trivial⟩⟩)⟩
          · skip
            obtain ⟨h195_0, h195_1, h195_2, h195_3, h195_4, h195_5, h195_6, h195_7, h195_8, h195_9⟩ := h195
            have w209 : dt196 79 2 = dt 79 2 := h195_3.trans w172
            have w210 : dt196 79 9 = dt 79 9 := h195_4.trans w173
            have w211 : dt196 79 10 = dt 79 10 := h195_5.trans w174
            have w212 : dt196 79 11 = dt 79 11 := h195_6.trans w175
            have w213 : dt196 79 12 = dt 79 12 := h195_7.trans w176
            have w214 : dt196 79 17 = dt 79 17 := h195_8.trans w177
            have w215 : dt196 79 20 = dt 79 20 := h195_9.trans w178
            have BL216 : ∀ j : Nat, (j : Int) < 5 * dt 79 10 → dt196 82 j = dt 82 j := fun j hj => (hF198 82 (by decide) j).trans (BL180 j hj)
            have Y217 := (hF198 82 (by decide) _).trans Y181
            have Y218 := (hF198 82 (by decide) _).trans Y182
            obtain ⟨j219, ej220, hc221⟩ := RSX_1 h195_0 (by decide)
            have hp222 : (gAF (KF 0 b n) (VF b n) (dt 79 10)) i = gOk j219 := hp186.trans ((show (hA0 (KF 0 b n) (VF b n) 1 ((VF b n) (i + 1))) j183 = gB ((gK (KF 0 b n) (159 - 100)) j183) gOk by first | exact gB_id.symm | ((repeat (first | rw [hA0_n (by decide)] | rw [hA1_n (by decide)] | rw [hA2_n (by decide)] | rw [hA3_n (by decide)])); exact gB_id.symm)).trans (by rw [ej220]; exact gB_0))
            have hi223 : j219 ≤ t := by have z := (fun (h : KZ (KF 0 b n) t) => gK_M (K := (KF 0 b n)) (k := 159 - 100) (i := j183) h (by decide)) hz; rw [ej220] at z; have y := z rfl; simp only at y; omega
            clear cr188 cb189 cd189 cv190 ck191
            have cr224 := hid (CUR_R hc221 (.inl rfl))
            have cd225 := CUR_d (hc221)
            have cb225 := hid (CUR_b hc221)
            have cv226 := hid (CUR_v hc221)
            have ck227 := hid (KZ_lt (i := j219) hz)
            have c1228 := (hc221).1
            have ci229 := hi223
            clear h195_3 w172 h195_4 w173 h195_5 h195_6 h195_7 w176 h195_8 w177 h195_9 w178
            refine go_retq PM172 (k := 0) (r := some (.inl 1)) (w1 := (SH, dt196)) rfl ?_
            exact ⟨dt196, rfl, hI197, hF199, (Or.inr ⟨rfl, ⟨by exact RSX_ok hp222 hc221, by first | exact True.intro | with_reducible assumption | exact unhid (by with_reducible assumption) | rfl | fail | trivial, by unfold ARF ATT ABB; exact ⟨by rw [Y217]; omega, Y218.trans (congrArg (VF b n) (by omega)), fun z_ => by (exfalso; omega), fun z_ => by (exfalso; omega), fun z_ => by (exfalso; omega), fun z_ => by (exfalso; omega)⟩, by exact BL216, by first | exact True.intro | with_reducible assumption | exact unhid (by with_reducible assumption) | rfl | omega | trivial, by exact (InvC_get (by assumption) 79 15 rfl rfl).2, by first | exact True.intro | with_reducible assumption | exact unhid (by with_reducible assumption) | rfl | fail | trivial, by first | exact True.intro | with_reducible assumption | exact unhid (by with_reducible assumption) | rfl | fail | trivial, by first | exact True.intro | with_reducible assumption | exact unhid (by with_reducible assumption) | rfl | fail | trivial, by first | exact True.intro | with_reducible assumption | exact unhid (by with_reducible assumption) | rfl | fail | trivial, by first | exact True.intro | with_reducible assumption | exact unhid (by with_reducible assumption) | rfl | fail | trivial, by first | exact True.intro | with_reducible assumption | exact unhid (by with_reducible assumption) | rfl | fail | trivial⟩⟩)⟩
      · rw [hc7]
        refine go_toq PM172 (k := 1) (pc' := 44) (L' := [some (.inr (.inr (some 79))), some (.inl 2)]) (st' := [.inr (.inr (some 79))]) (w' := (SH, dt)) rfl ?_
        refine go_callq PM172 PM159 (Q' := _) rfl rfl rfl rfl (sp_X6_next0_p0 L xs sio (d + 2) dt hI   (by first | exact True.intro | with_reducible assumption | exact unhid (by with_reducible assumption) | rfl | omega | trivial) (by first | exact True.intro | with_reducible assumption | exact unhid (by with_reducible assumption) | rfl | fail | trivial)) ?_
        rintro _ _ ⟨dt231, rfl, hI232, hF233, h230⟩
        refine ⟨rfl, ?_⟩
        have hF234 : Fr [79, 82] dt dt231 := Fr_tr hF hF233 (by decide)
        rcases h230 with ⟨rfl, h230⟩
        obtain ⟨h230_0, h230_1, h230_2, h230_3, h230_4, h230_5, h230_6, h230_7, h230_8⟩ := h230
        have w235 : dt231 79 2 = dt 79 2 := h230_2
        have w236 : dt231 79 9 = dt 79 9 := h230_3
        have w237 : dt231 79 10 = dt 79 10 := h230_4
        have w238 : dt231 79 11 = dt 79 11 := h230_5
        have w239 : dt231 79 12 = dt 79 12 := h230_6
        have w240 : dt231 79 17 = dt 79 17 := h230_7
        have w241 : dt231 79 20 = dt 79 20 := h230_8
        have BL242 : ∀ j : Nat, (j : Int) < 5 * dt 79 10 → dt231 82 j = dt 82 j := fun j hj => (hF233 82 (by decide) j).trans ((fun _ _ => rfl) j hj)
        have hq243 := h230_0
        rw [hbb, show (dt 79 12).toNat = n from (congrArg Int.toNat hnn).trans (Int.toNat_natCast n)] at hq243
        have hc244 : CUR 0 b n dt231 (i + 1) := CUR_n hc hq243
        have hi245 : i + 1 ≤ t := by (have z_ := unhid u2_; omega)
        have av246 : dt 79 15 + 1 ≤ dt 79 13 := by (have z_ := unhid u2_; omega)
        have kk_ : KF 0 b n i = 1002 := by (have z_ := unhid u2_; omega)
        have hp247 : (gAF (KF 0 b n) (VF b n) (dt 79 10)) i = (gAct (KF 0 b n) (VF b n) 2) (i + 1) := (rfl : (gAF (KF 0 b n) (VF b n) (dt 79 10)) i = (gAF (KF 0 b n) (VF b n) (dt 79 10)) i).trans (by show gAF _ _ _ _ = _; unfold gAF; rw [if_neg (by (have z_ := unhid u2_; omega)), if_neg (by (have z_ := unhid u2_; omega)), show (KF 0 b n) i - 1000 = 2 by first | with_reducible assumption | exact unhid (by with_reducible assumption) | (have z_ := unhid u2_; omega)])
        clear cr0 cb0 cd0 cv0 ck0
        have cr248 := hid (CUR_R hc244 (.inl rfl))
        have cd249 := CUR_d (hc244)
        have cb249 := hid (CUR_b hc244)
        have cv250 := hid (CUR_v hc244)
        have ck251 := hid (KZ_lt (i := (i + 1)) hz)
        have c1252 := (hc244).1
        have ci253 := hi245
        clear h230_2 h230_3 h230_4 h230_5 h230_6 h230_7 h230_8
        have r254 : 0 ≤ dt231 79 10 ∧ dt231 79 10 ≤ 24 := InvC_get hI232 79 10 rfl rfl
        refine go_toq PM172 (k := 7) (pc' := 58) (L' := [some (.inr (.inr (some 79))), some (.inl 2)]) (st' := [.inl 2, .inl (5 * (dt231 79 10)), .inr (.inr (some 82))]) (w' := (SH, dt231)) rfl ?_
        have hI255 : InvC (u2 dt231 82 ((5 * (dt231 79 10)).toNat) 2) := InvC_u2 hI232 (lo := -2147483648) (hi := 2147483647) rfl rfl rfl (by decide) (by decide)
        have hF256 : Fr [79, 82] dt (u2 dt231 82 ((5 * (dt231 79 10)).toNat) 2) := Fr_u2 hF234 (by decide)
        have w257 : (u2 dt231 82 ((5 * (dt231 79 10)).toNat) 2) 79 2 = dt 79 2 := w235
        have w258 : (u2 dt231 82 ((5 * (dt231 79 10)).toNat) 2) 79 9 = dt 79 9 := w236
        have w259 : (u2 dt231 82 ((5 * (dt231 79 10)).toNat) 2) 79 10 = dt 79 10 := w237
        have w260 : (u2 dt231 82 ((5 * (dt231 79 10)).toNat) 2) 79 11 = dt 79 11 := w238
        have w261 : (u2 dt231 82 ((5 * (dt231 79 10)).toNat) 2) 79 12 = dt 79 12 := w239
        have w262 : (u2 dt231 82 ((5 * (dt231 79 10)).toNat) 2) 79 13 = dt231 79 13 := rfl
        have w263 : (u2 dt231 82 ((5 * (dt231 79 10)).toNat) 2) 79 14 = dt231 79 14 := rfl
        have w264 : (u2 dt231 82 ((5 * (dt231 79 10)).toNat) 2) 79 15 = dt231 79 15 := rfl
        have w265 : (u2 dt231 82 ((5 * (dt231 79 10)).toNat) 2) 79 16 = dt231 79 16 := rfl
        have w266 : (u2 dt231 82 ((5 * (dt231 79 10)).toNat) 2) 79 17 = dt 79 17 := w240
        have w267 : (u2 dt231 82 ((5 * (dt231 79 10)).toNat) 2) 79 18 = dt231 79 18 := rfl
        have w268 : (u2 dt231 82 ((5 * (dt231 79 10)).toNat) 2) 79 20 = dt 79 20 := w241
        have BL269 : ∀ j : Nat, (j : Int) < 5 * dt 79 10 → (u2 dt231 82 ((5 * (dt231 79 10)).toNat) 2) 82 j = dt 82 j := fun j hj => (u2_ne (by omega)).trans (BL242 j hj)
        have Y270 : (u2 dt231 82 ((5 * (dt231 79 10)).toNat) 2) 82 (5 * (dt 79 10)).toNat = 2 := by rw [show (5 * (dt 79 10)).toNat = (5 * (dt231 79 10)).toNat by first | with_reducible assumption | exact unhid (by with_reducible assumption) | omega]; exact u2_eq
        have hc271 : CUR 0 b n (u2 dt231 82 ((5 * (dt231 79 10)).toNat) 2) (i + 1) := CUR_sm hc244 rfl rfl rfl rfl
        refine go_smpq PM172 (L' := [some (.inr (.inr (some 79))), some (.inl 2)]) (st' := []) (w' := (SH, (u2 dt231 82 ((5 * (dt231 79 10)).toNat) 2))) rfl rfl (s_iast (n := 120) rfl ⟨by omega, by omega⟩ ⟨by decide, by decide⟩) ?_
        refine go_toq PM172 (k := 6) (pc' := 72) (L' := [some (.inr (.inr (some 79))), some (.inl 2)]) (st' := [.inl 3, .inl 1, .inr (.inr (some 79))]) (w' := (SH, (u2 dt231 82 ((5 * (dt231 79 10)).toNat) 2))) rfl ?_
        refine go_callq PM172 PM171 (Q' := _) rfl rfl rfl rfl (sp_X6_argument_g0 L xs sio (d + 0) (u2 dt231 82 ((5 * (dt231 79 10)).toNat) 2) hI255 b n t (i + 1) (by first | exact hbb | (rw [show (u2 dt231 82 ((5 * (dt231 79 10)).toNat) 2) 85 = dt 85 from funext (hF256 85 (by decide)), show (u2 dt231 82 ((5 * (dt231 79 10)).toNat) 2) 79 12 = dt 79 12 by first | with_reducible assumption | exact unhid (by with_reducible assumption) | fail]; exact hbb)) (by first | with_reducible assumption | exact unhid (by with_reducible assumption) | exact Eq.trans (by with_reducible assumption) hnn | fail) hz ht hc271 hi245 hn5 1 ⟨by decide, by decide⟩ 3 ⟨by decide, by decide⟩ (by first | exact True.intro | with_reducible assumption | exact unhid (by with_reducible assumption) | rfl | omega | trivial) (by first | exact True.intro | with_reducible assumption | exact unhid (by with_reducible assumption) | rfl | omega | trivial)) ?_
        rintro _ _ ⟨dt273, rfl, hI274, hF275, h272⟩
        refine ⟨rfl, ?_⟩
        have hF276 : Fr [79, 82] dt dt273 := Fr_tr hF256 hF275 (by decide)
        rcases h272 with ⟨rfl, h272⟩ | ⟨rfl, h272⟩
        · skip
          obtain ⟨h272_0, h272_1, h272_2, h272_3, h272_4⟩ := h272
          have w277 : dt273 79 2 = dt 79 2 := h272_1.trans w257
          have w278 : dt273 79 9 = dt 79 9 := h272_2.trans w258
          have w279 : dt273 79 10 = dt 79 10 := h272_3.trans w259
          have w280 : dt273 79 12 = dt 79 12 := h272_4.trans w261
          have fl281 := RSX_0 h272_0 rfl
          have fe282 : (gAF (KF 0 b n) (VF b n) (dt 79 10)) i = (gA (KF 0 b n) (VF b n) 3) (i + 1) := hp247.trans ((show (gAct (KF 0 b n) (VF b n) 2) (i + 1) = gB ((gA (KF 0 b n) (VF b n) 3) (i + 1)) (hA0 (KF 0 b n) (VF b n) 2 ((VF b n) (i + 1))) by exact hAc_n (by decide)).trans (gB_no fl281.1))
          clear h272_1 w257 h272_2 w258 h272_3 w259 h272_4 w261
          refine go_retq PM172 (k := 2) (r := some (.inl 0)) (w1 := (SH, dt273)) rfl ?_
          exact ⟨dt273, rfl, hI274, hF276, (Or.inl ⟨rfl, ⟨by exact RSX_f fe282 fl281 (by first | rfl | with_reducible assumption | exact unhid (by with_reducible assumption) | fail) (by first | rfl | with_reducible assumption | exact unhid (by with_reducible assumption) | fail), by first | exact True.intro | with_reducible assumption | exact unhid (by with_reducible assumption) | rfl | fail | trivial, by first | exact True.intro | with_reducible assumption | exact unhid (by with_reducible assumption) | rfl | fail | trivial, by first | exact True.intro | with_reducible assumption | exact unhid (by with_reducible assumption) | rfl | fail | trivial⟩⟩)⟩
        · skip
          obtain ⟨h272_0, h272_1, h272_2, h272_3, h272_4, h272_5, h272_6, h272_7, h272_8, h272_9, h272_10, h272_11⟩ := h272
          have w283 : dt273 79 2 = dt 79 2 := h272_5.trans w257
          have w284 : dt273 79 9 = dt 79 9 := h272_6.trans w258
          have w285 : dt273 79 10 = dt 79 10 := h272_7.trans w259
          have w286 : dt273 79 11 = dt 79 11 := h272_8.trans w260
          have w287 : dt273 79 12 = dt 79 12 := h272_9.trans w261
          have w288 : dt273 79 17 = dt 79 17 := h272_10.trans w266
          have w289 : dt273 79 20 = dt 79 20 := h272_11.trans w268
          have ee290 : (u2 dt231 82 ((5 * (dt231 79 10)).toNat) 2) 79 10 = dt 79 10 := by omega
          rw [ee290] at h272_1 h272_2
          have BL291 : ∀ j : Nat, (j : Int) < 5 * dt 79 10 → dt273 82 j = dt 82 j := fun j hj => (h272_2 j (by omega)).trans (BL269 j hj)
          have Y292 := (h272_2 _ (by omega)).trans Y270
          have Y293 := h272_1
          obtain ⟨j294, ej295, hc296⟩ := RSX_1 h272_0 (by decide)
          have hp297 : (gAF (KF 0 b n) (VF b n) (dt 79 10)) i = (hA0 (KF 0 b n) (VF b n) 2 ((VF b n) (i + 1))) j294 := hp247.trans ((show (gAct (KF 0 b n) (VF b n) 2) (i + 1) = gB ((gA (KF 0 b n) (VF b n) 3) (i + 1)) (hA0 (KF 0 b n) (VF b n) 2 ((VF b n) (i + 1))) by exact hAc_n (by decide)).trans (by rw [ej295]; exact gB_0))
          have hi298 : j294 ≤ t := by have z := gA_M (K := (KF 0 b n)) (V := (VF b n)) (m := 3) (i := (i + 1)) hz; rw [ej295] at z; have y := z rfl; simp only at y; omega
          clear cr248 cb249 cd249 cv250 ck251
          have cr299 := hid (CUR_R hc296 (.inl rfl))
          have cd300 := CUR_d (hc296)
          have cb300 := hid (CUR_b hc296)
          have cv301 := hid (CUR_v hc296)
          have ck302 := hid (KZ_lt (i := j294) hz)
          have c1303 := (hc296).1
          have ci304 := hi298
          have ej305 : j294 = (i + 1) + 1 := by have z_ := gA_at (K := (KF 0 b n)) (V := (VF b n)) (m := 3) (i := (i + 1)) (by rw [ej295]); rw [ej295] at z_; exact z_
          clear h272_5 w257 h272_6 w258 h272_7 w259 h272_8 w260 h272_9 w261 h272_10 w266 h272_11 w268
          refine go_toq PM172 (k := 10) (pc' := 148) (L' := [some (.inr (.inr (some 79))), some (.inl 2)]) (st' := [.inl 2, .inl 2, .inr (.inr (some 79))]) (w' := (SH, dt273)) rfl ?_
          refine go_callq PM172 PM171 (Q' := _) rfl rfl rfl rfl (sp_X6_argument_g0 L xs sio (d + 0) dt273 hI274 b n t j294 (by first | exact hbb | (rw [show dt273 85 = dt 85 from funext (hF276 85 (by decide)), show dt273 79 12 = dt 79 12 by first | with_reducible assumption | exact unhid (by with_reducible assumption) | fail]; exact hbb)) (by first | with_reducible assumption | exact unhid (by with_reducible assumption) | exact Eq.trans (by with_reducible assumption) hnn | fail) hz ht hc296 hi298 hn5 2 ⟨by decide, by decide⟩ 2 ⟨by decide, by decide⟩ (by first | exact True.intro | with_reducible assumption | exact unhid (by with_reducible assumption) | rfl | omega | trivial) (by first | exact True.intro | with_reducible assumption | exact unhid (by with_reducible assumption) | rfl | omega | trivial)) ?_
          rintro _ _ ⟨dt307, rfl, hI308, hF309, h306⟩
          refine ⟨rfl, ?_⟩
          have hF310 : Fr [79, 82] dt dt307 := Fr_tr hF276 hF309 (by decide)
          rcases h306 with ⟨rfl, h306⟩ | ⟨rfl, h306⟩
          · skip
            obtain ⟨h306_0, h306_1, h306_2, h306_3, h306_4⟩ := h306
            have w311 : dt307 79 2 = dt 79 2 := h306_1.trans w283
            have w312 : dt307 79 9 = dt 79 9 := h306_2.trans w284
            have w313 : dt307 79 10 = dt 79 10 := h306_3.trans w285
            have w314 : dt307 79 12 = dt 79 12 := h306_4.trans w287
            have fl315 := RSX_0 h306_0 rfl
            have fe316 : (gAF (KF 0 b n) (VF b n) (dt 79 10)) i = (gA (KF 0 b n) (VF b n) 2) j294 := hp297.trans ((show (hA0 (KF 0 b n) (VF b n) 2 ((VF b n) (i + 1))) j294 = gB ((gA (KF 0 b n) (VF b n) 2) j294) (hA2 (KF 0 b n) (VF b n) 2) by first | exact hA1_p (by decide) | (rw [hA0_n (by decide)]; exact hA1_p (by decide))).trans (gB_no fl315.1))
            clear h306_1 w283 h306_2 w284 h306_3 h306_4 w287
            refine go_retq PM172 (k := 2) (r := some (.inl 0)) (w1 := (SH, dt307)) rfl ?_
            exact ⟨dt307, rfl, hI308, hF310, (Or.inl ⟨rfl, ⟨by exact RSX_f fe316 fl315 (by first | rfl | with_reducible assumption | exact unhid (by with_reducible assumption) | fail) (by first | rfl | with_reducible assumption | exact unhid (by with_reducible assumption) | fail), by first | exact True.intro | with_reducible assumption | exact unhid (by with_reducible assumption) | rfl | fail | trivial, by first | exact True.intro | with_reducible assumption | exact unhid (by with_reducible assumption) | rfl | fail | trivial, by first | exact True.intro | with_reducible assumption | exact unhid (by with_reducible assumption) | rfl | fail | trivial⟩⟩)⟩
          · skip
            obtain ⟨h306_0, h306_1, h306_2, h306_3, h306_4, h306_5, h306_6, h306_7, h306_8, h306_9, h306_10, h306_11⟩ := h306
            have w317 : dt307 79 2 = dt 79 2 := h306_5.trans w283
            have w318 : dt307 79 9 = dt 79 9 := h306_6.trans w284
            have w319 : dt307 79 10 = dt 79 10 := h306_7.trans w285
            have w320 : dt307 79 11 = dt 79 11 := h306_8.trans w286
            have w321 : dt307 79 12 = dt 79 12 := h306_9.trans w287
            have w322 : dt307 79 17 = dt 79 17 := h306_10.trans w288
            have w323 : dt307 79 20 = dt 79 20 := h306_11.trans w289
            have ee324 : dt273 79 10 = dt 79 10 := by omega
            rw [ee324] at h306_1 h306_2
            have BL325 : ∀ j : Nat, (j : Int) < 5 * dt 79 10 → dt307 82 j = dt 82 j := fun j hj => (h306_2 j (by omega)).trans (BL291 j hj)
            have Y326 := (h306_2 _ (by omega)).trans Y292
            have Y327 := (h306_2 _ (by omega)).trans Y293
            have Y328 := h306_1
            obtain ⟨j329, ej330, hc331⟩ := RSX_1 h306_0 (by decide)
            have hp332 : (gAF (KF 0 b n) (VF b n) (dt 79 10)) i = (hA2 (KF 0 b n) (VF b n) 2) j329 := hp297.trans ((show (hA0 (KF 0 b n) (VF b n) 2 ((VF b n) (i + 1))) j294 = gB ((gA (KF 0 b n) (VF b n) 2) j294) (hA2 (KF 0 b n) (VF b n) 2) by first | exact hA1_p (by decide) | (rw [hA0_n (by decide)]; exact hA1_p (by decide))).trans (by rw [ej330]; exact gB_0))
            have hi333 : j329 ≤ t := by have z := gA_M (K := (KF 0 b n)) (V := (VF b n)) (m := 2) (i := j294) hz; rw [ej330] at z; have y := z rfl; simp only at y; omega
            clear cr299 cb300 cd300 cv301 ck302
            have cr334 := hid (CUR_R hc331 (.inl rfl))
            have cd335 := CUR_d (hc331)
            have cb335 := hid (CUR_b hc331)
            have cv336 := hid (CUR_v hc331)
            have ck337 := hid (KZ_lt (i := j329) hz)
            have c1338 := (hc331).1
            have ci339 := hi333
            have ej340 : j329 = j294 + 1 := by have z_ := gA_at (K := (KF 0 b n)) (V := (VF b n)) (m := 2) (i := j294) (by rw [ej330]); rw [ej330] at z_; exact z_
            clear h306_5 w283 h306_6 w284 h306_7 h306_8 h306_9 w287 h306_10 w288 h306_11 w289
            refine go_toq PM172 (k := 7) (pc' := 179) (L' := [some (.inr (.inr (some 79))), some (.inl 2)]) (st' := [.inl 3, .inl 3, .inr (.inr (some 79))]) (w' := (SH, dt307)) rfl ?_
            refine go_callq PM172 PM171 (Q' := _) rfl rfl rfl rfl (sp_X6_argument_g0 L xs sio (d + 0) dt307 hI308 b n t j329 (by first | exact hbb | (rw [show dt307 85 = dt 85 from funext (hF310 85 (by decide)), show dt307 79 12 = dt 79 12 by first | with_reducible assumption | exact unhid (by with_reducible assumption) | fail]; exact hbb)) (by first | with_reducible assumption | exact unhid (by with_reducible assumption) | exact Eq.trans (by with_reducible assumption) hnn | fail) hz ht hc331 hi333 hn5 3 ⟨by decide, by decide⟩ 3 ⟨by decide, by decide⟩ (by first | exact True.intro | with_reducible assumption | exact unhid (by with_reducible assumption) | rfl | omega | trivial) (by first | exact True.intro | with_reducible assumption | exact unhid (by with_reducible assumption) | rfl | omega | trivial)) ?_
            rintro _ _ ⟨dt342, rfl, hI343, hF344, h341⟩
            refine ⟨rfl, ?_⟩
            have hF345 : Fr [79, 82] dt dt342 := Fr_tr hF310 hF344 (by decide)
            rcases h341 with ⟨rfl, h341⟩ | ⟨rfl, h341⟩
            · skip
              obtain ⟨h341_0, h341_1, h341_2, h341_3, h341_4⟩ := h341
              have w346 : dt342 79 2 = dt 79 2 := h341_1.trans w317
              have w347 : dt342 79 9 = dt 79 9 := h341_2.trans w318
              have w348 : dt342 79 10 = dt 79 10 := h341_3.trans w319
              have w349 : dt342 79 12 = dt 79 12 := h341_4.trans w321
              have fl350 := RSX_0 h341_0 rfl
              have fe351 : (gAF (KF 0 b n) (VF b n) (dt 79 10)) i = (gA (KF 0 b n) (VF b n) 3) j329 := hp332.trans ((show (hA2 (KF 0 b n) (VF b n) 2) j329 = gB ((gA (KF 0 b n) (VF b n) 3) j329) (hA3 (KF 0 b n) (VF b n) 2) by first | exact hA2_p (by decide) | (rw [hA1_n (by decide)]; exact hA2_p (by decide)) | (rw [hA0_n (by decide), hA1_n (by decide)]; exact hA2_p (by decide))).trans (gB_no fl350.1))
              clear h341_1 w317 h341_2 w318 h341_3 h341_4 w321
              refine go_retq PM172 (k := 2) (r := some (.inl 0)) (w1 := (SH, dt342)) rfl ?_
              exact ⟨dt342, rfl, hI343, hF345, (Or.inl ⟨rfl, ⟨by exact RSX_f fe351 fl350 (by first | rfl | with_reducible assumption | exact unhid (by with_reducible assumption) | fail) (by first | rfl | with_reducible assumption | exact unhid (by with_reducible assumption) | fail), by first | exact True.intro | with_reducible assumption | exact unhid (by with_reducible assumption) | rfl | fail | trivial, by first | exact True.intro | with_reducible assumption | exact unhid (by with_reducible assumption) | rfl | fail | trivial, by first | exact True.intro | with_reducible assumption | exact unhid (by with_reducible assumption) | rfl | fail | trivial⟩⟩)⟩
            · skip
              obtain ⟨h341_0, h341_1, h341_2, h341_3, h341_4, h341_5, h341_6, h341_7, h341_8, h341_9, h341_10, h341_11⟩ := h341
              have w352 : dt342 79 2 = dt 79 2 := h341_5.trans w317
              have w353 : dt342 79 9 = dt 79 9 := h341_6.trans w318
              have w354 : dt342 79 10 = dt 79 10 := h341_7.trans w319
              have w355 : dt342 79 11 = dt 79 11 := h341_8.trans w320
              have w356 : dt342 79 12 = dt 79 12 := h341_9.trans w321
              have w357 : dt342 79 17 = dt 79 17 := h341_10.trans w322
              have w358 : dt342 79 20 = dt 79 20 := h341_11.trans w323
              have ee359 : dt307 79 10 = dt 79 10 := by omega
              rw [ee359] at h341_1 h341_2
              have BL360 : ∀ j : Nat, (j : Int) < 5 * dt 79 10 → dt342 82 j = dt 82 j := fun j hj => (h341_2 j (by omega)).trans (BL325 j hj)
              have Y361 := (h341_2 _ (by omega)).trans Y326
              have Y362 := (h341_2 _ (by omega)).trans Y327
              have Y363 := (h341_2 _ (by omega)).trans Y328
              have Y364 := h341_1
              obtain ⟨j365, ej366, hc367⟩ := RSX_1 h341_0 (by decide)
              have hp368 : (gAF (KF 0 b n) (VF b n) (dt 79 10)) i = (hA3 (KF 0 b n) (VF b n) 2) j365 := hp332.trans ((show (hA2 (KF 0 b n) (VF b n) 2) j329 = gB ((gA (KF 0 b n) (VF b n) 3) j329) (hA3 (KF 0 b n) (VF b n) 2) by first | exact hA2_p (by decide) | (rw [hA1_n (by decide)]; exact hA2_p (by decide)) | (rw [hA0_n (by decide), hA1_n (by decide)]; exact hA2_p (by decide))).trans (by rw [ej366]; exact gB_0))
              have hi369 : j365 ≤ t := by have z := gA_M (K := (KF 0 b n)) (V := (VF b n)) (m := 3) (i := j329) hz; rw [ej366] at z; have y := z rfl; simp only at y; omega
              clear cr334 cb335 cd335 cv336 ck337
              have cr370 := hid (CUR_R hc367 (.inl rfl))
              have cd371 := CUR_d (hc367)
              have cb371 := hid (CUR_b hc367)
              have cv372 := hid (CUR_v hc367)
              have ck373 := hid (KZ_lt (i := j365) hz)
              have c1374 := (hc367).1
              have ci375 := hi369
              have ej376 : j365 = j329 + 1 := by have z_ := gA_at (K := (KF 0 b n)) (V := (VF b n)) (m := 3) (i := j329) (by rw [ej366]); rw [ej366] at z_; exact z_
              clear h341_5 w317 h341_6 w318 h341_7 h341_8 h341_9 w321 h341_10 w322 h341_11 w323
              refine go_toq PM172 (k := 6) (pc' := 208) (L' := [some (.inr (.inr (some 79))), some (.inl 2)]) (st' := [.inl 159, .inr (.inr (some 79))]) (w' := (SH, dt342)) rfl ?_
              refine go_callq PM172 PM161 (Q' := _) rfl rfl rfl rfl (sp_X6_need0_g0 L xs sio (d + 1) dt342 hI343 b n t j365 (by first | exact hbb | (rw [show dt342 85 = dt 85 from funext (hF345 85 (by decide)), show dt342 79 12 = dt 79 12 by first | with_reducible assumption | exact unhid (by with_reducible assumption) | fail]; exact hbb)) (by first | with_reducible assumption | exact unhid (by with_reducible assumption) | exact Eq.trans (by with_reducible assumption) hnn | fail) hz ht hc367 hi369 hn5 159 ⟨by decide, by decide⟩ (by first | exact True.intro | with_reducible assumption | exact unhid (by with_reducible assumption) | rfl | omega | trivial)) ?_
              rintro _ _ ⟨dt378, rfl, hI379, hF380, h377⟩
              refine ⟨rfl, ?_⟩
              have hF381 : Fr [79, 82] dt dt378 := Fr_tr hF345 hF380 (by decide)
              rcases h377 with ⟨rfl, h377⟩ | ⟨rfl, h377⟩
              · skip
                obtain ⟨h377_0, h377_1, h377_2, h377_3, h377_4⟩ := h377
                have w382 : dt378 79 2 = dt 79 2 := h377_1.trans w352
                have w383 : dt378 79 9 = dt 79 9 := h377_2.trans w353
                have w384 : dt378 79 10 = dt 79 10 := h377_3.trans w354
                have w385 : dt378 79 12 = dt 79 12 := h377_4.trans w356
                have BL386 : ∀ j : Nat, (j : Int) < 5 * dt 79 10 → dt378 82 j = dt 82 j := fun j hj => (hF380 82 (by decide) j).trans (BL360 j hj)
                have Y387 := (hF380 82 (by decide) _).trans Y361
                have Y388 := (hF380 82 (by decide) _).trans Y362
                have Y389 := (hF380 82 (by decide) _).trans Y363
                have Y390 := (hF380 82 (by decide) _).trans Y364
                have fl391 := RSX_0 h377_0 rfl
                have fe392 : (gAF (KF 0 b n) (VF b n) (dt 79 10)) i = (gK (KF 0 b n) (159 - 100)) j365 := hp368.trans ((show (hA3 (KF 0 b n) (VF b n) 2) j365 = gB ((gK (KF 0 b n) (159 - 100)) j365) gOk by first | exact gB_id.symm | ((repeat (first | rw [hA0_n (by decide)] | rw [hA1_n (by decide)] | rw [hA2_n (by decide)] | rw [hA3_n (by decide)])); exact gB_id.symm)).trans (gB_no fl391.1))
                clear h377_1 w352 h377_2 w353 h377_3 h377_4 w356
                refine go_retq PM172 (k := 0) (r := some (.inl 0)) (w1 := (SH, dt378)) rfl ?_
                exact ⟨dt378, rfl, hI379, hF381, (Or.inl ⟨rfl, ⟨by exact RSX_f fe392 fl391 (by first | rfl | with_reducible assumption | exact unhid (by with_reducible assumption) | fail) (by first | rfl | with_reducible assumption | exact unhid (by with_reducible assumption) | fail), by first | exact True.intro | with_reducible assumption | exact unhid (by with_reducible assumption) | rfl | fail | trivial, by first | exact True.intro | with_reducible assumption | exact unhid (by with_reducible assumption) | rfl | fail | trivial, by first | exact True.intro | with_reducible assumption | exact unhid (by with_reducible assumption) | rfl | fail | trivial⟩⟩)⟩
              · skip
                obtain ⟨h377_0, h377_1, h377_2, h377_3, h377_4, h377_5, h377_6, h377_7, h377_8, h377_9⟩ := h377
                have w393 : dt378 79 2 = dt 79 2 := h377_3.trans w352
                have w394 : dt378 79 9 = dt 79 9 := h377_4.trans w353
                have w395 : dt378 79 10 = dt 79 10 := h377_5.trans w354
                have w396 : dt378 79 11 = dt 79 11 := h377_6.trans w355
                have w397 : dt378 79 12 = dt 79 12 := h377_7.trans w356
                have w398 : dt378 79 17 = dt 79 17 := h377_8.trans w357
                have w399 : dt378 79 20 = dt 79 20 := h377_9.trans w358
                have BL400 : ∀ j : Nat, (j : Int) < 5 * dt 79 10 → dt378 82 j = dt 82 j := fun j hj => (hF380 82 (by decide) j).trans (BL360 j hj)
                have Y401 := (hF380 82 (by decide) _).trans Y361
                have Y402 := (hF380 82 (by decide) _).trans Y362
                have Y403 := (hF380 82 (by decide) _).trans Y363
                have Y404 := (hF380 82 (by decide) _).trans Y364
                obtain ⟨j405, ej406, hc407⟩ := RSX_1 h377_0 (by decide)
                have hp408 : (gAF (KF 0 b n) (VF b n) (dt 79 10)) i = gOk j405 := hp368.trans ((show (hA3 (KF 0 b n) (VF b n) 2) j365 = gB ((gK (KF 0 b n) (159 - 100)) j365) gOk by first | exact gB_id.symm | ((repeat (first | rw [hA0_n (by decide)] | rw [hA1_n (by decide)] | rw [hA2_n (by decide)] | rw [hA3_n (by decide)])); exact gB_id.symm)).trans (by rw [ej406]; exact gB_0))
                have hi409 : j405 ≤ t := by have z := (fun (h : KZ (KF 0 b n) t) => gK_M (K := (KF 0 b n)) (k := 159 - 100) (i := j365) h (by decide)) hz; rw [ej406] at z; have y := z rfl; simp only at y; omega
                clear cr370 cb371 cd371 cv372 ck373
                have cr410 := hid (CUR_R hc407 (.inl rfl))
                have cd411 := CUR_d (hc407)
                have cb411 := hid (CUR_b hc407)
                have cv412 := hid (CUR_v hc407)
                have ck413 := hid (KZ_lt (i := j405) hz)
                have c1414 := (hc407).1
                have ci415 := hi409
                clear h377_3 w352 h377_4 w353 h377_5 h377_6 h377_7 w356 h377_8 w357 h377_9 w358
                refine go_retq PM172 (k := 0) (r := some (.inl 1)) (w1 := (SH, dt378)) rfl ?_
                exact ⟨dt378, rfl, hI379, hF381, (Or.inr ⟨rfl, ⟨by exact RSX_ok hp408 hc407, by first | exact True.intro | with_reducible assumption | exact unhid (by with_reducible assumption) | rfl | fail | trivial, by unfold ARF ATT ABB; exact ⟨by rw [Y401]; omega, Y402.trans (congrArg (VF b n) (by omega)), fun z_ => by (rw [if_neg (by omega)]; exact Y403.trans (congrArg (VF b n) (by omega))), fun z_ => by (rw [if_neg (by omega), if_pos (by omega)]; exact Y404.trans (congrArg (VF b n) (by omega))), fun z_ => by (exfalso; omega), fun z_ => by (exfalso; omega)⟩, by exact BL400, by first | exact True.intro | with_reducible assumption | exact unhid (by with_reducible assumption) | rfl | omega | trivial, by exact (InvC_get (by assumption) 79 15 rfl rfl).2, by first | exact True.intro | with_reducible assumption | exact unhid (by with_reducible assumption) | rfl | fail | trivial, by first | exact True.intro | with_reducible assumption | exact unhid (by with_reducible assumption) | rfl | fail | trivial, by first | exact True.intro | with_reducible assumption | exact unhid (by with_reducible assumption) | rfl | fail | trivial, by first | exact True.intro | with_reducible assumption | exact unhid (by with_reducible assumption) | rfl | fail | trivial, by first | exact True.intro | with_reducible assumption | exact unhid (by with_reducible assumption) | rfl | fail | trivial, by first | exact True.intro | with_reducible assumption | exact unhid (by with_reducible assumption) | rfl | fail | trivial⟩⟩)⟩
      · rw [hc7]
        refine go_toq PM172 (k := 1) (pc' := 44) (L' := [some (.inr (.inr (some 79))), some (.inl 3)]) (st' := [.inr (.inr (some 79))]) (w' := (SH, dt)) rfl ?_
        refine go_callq PM172 PM159 (Q' := _) rfl rfl rfl rfl (sp_X6_next0_p0 L xs sio (d + 2) dt hI   (by first | exact True.intro | with_reducible assumption | exact unhid (by with_reducible assumption) | rfl | omega | trivial) (by first | exact True.intro | with_reducible assumption | exact unhid (by with_reducible assumption) | rfl | fail | trivial)) ?_
        rintro _ _ ⟨dt417, rfl, hI418, hF419, h416⟩
        refine ⟨rfl, ?_⟩
        have hF420 : Fr [79, 82] dt dt417 := Fr_tr hF hF419 (by decide)
        rcases h416 with ⟨rfl, h416⟩
        obtain ⟨h416_0, h416_1, h416_2, h416_3, h416_4, h416_5, h416_6, h416_7, h416_8⟩ := h416
        have w421 : dt417 79 2 = dt 79 2 := h416_2
        have w422 : dt417 79 9 = dt 79 9 := h416_3
        have w423 : dt417 79 10 = dt 79 10 := h416_4
        have w424 : dt417 79 11 = dt 79 11 := h416_5
        have w425 : dt417 79 12 = dt 79 12 := h416_6
        have w426 : dt417 79 17 = dt 79 17 := h416_7
        have w427 : dt417 79 20 = dt 79 20 := h416_8
        have BL428 : ∀ j : Nat, (j : Int) < 5 * dt 79 10 → dt417 82 j = dt 82 j := fun j hj => (hF419 82 (by decide) j).trans ((fun _ _ => rfl) j hj)
        have hq429 := h416_0
        rw [hbb, show (dt 79 12).toNat = n from (congrArg Int.toNat hnn).trans (Int.toNat_natCast n)] at hq429
        have hc430 : CUR 0 b n dt417 (i + 1) := CUR_n hc hq429
        have hi431 : i + 1 ≤ t := by (have z_ := unhid u2_; omega)
        have av432 : dt 79 15 + 1 ≤ dt 79 13 := by (have z_ := unhid u2_; omega)
        have kk_ : KF 0 b n i = 1003 := by (have z_ := unhid u2_; omega)
        have hp433 : (gAF (KF 0 b n) (VF b n) (dt 79 10)) i = (gAct (KF 0 b n) (VF b n) 3) (i + 1) := (rfl : (gAF (KF 0 b n) (VF b n) (dt 79 10)) i = (gAF (KF 0 b n) (VF b n) (dt 79 10)) i).trans (by show gAF _ _ _ _ = _; unfold gAF; rw [if_neg (by (have z_ := unhid u2_; omega)), if_neg (by (have z_ := unhid u2_; omega)), show (KF 0 b n) i - 1000 = 3 by first | with_reducible assumption | exact unhid (by with_reducible assumption) | (have z_ := unhid u2_; omega)])
        clear cr0 cb0 cd0 cv0 ck0
        have cr434 := hid (CUR_R hc430 (.inl rfl))
        have cd435 := CUR_d (hc430)
        have cb435 := hid (CUR_b hc430)
        have cv436 := hid (CUR_v hc430)
        have ck437 := hid (KZ_lt (i := (i + 1)) hz)
        have c1438 := (hc430).1
        have ci439 := hi431
        clear h416_2 h416_3 h416_4 h416_5 h416_6 h416_7 h416_8
        have r440 : 0 ≤ dt417 79 10 ∧ dt417 79 10 ≤ 24 := InvC_get hI418 79 10 rfl rfl
        refine go_toq PM172 (k := 7) (pc' := 58) (L' := [some (.inr (.inr (some 79))), some (.inl 3)]) (st' := [.inl 3, .inl (5 * (dt417 79 10)), .inr (.inr (some 82))]) (w' := (SH, dt417)) rfl ?_
        have hI441 : InvC (u2 dt417 82 ((5 * (dt417 79 10)).toNat) 3) := InvC_u2 hI418 (lo := -2147483648) (hi := 2147483647) rfl rfl rfl (by decide) (by decide)
        have hF442 : Fr [79, 82] dt (u2 dt417 82 ((5 * (dt417 79 10)).toNat) 3) := Fr_u2 hF420 (by decide)
        have w443 : (u2 dt417 82 ((5 * (dt417 79 10)).toNat) 3) 79 2 = dt 79 2 := w421
        have w444 : (u2 dt417 82 ((5 * (dt417 79 10)).toNat) 3) 79 9 = dt 79 9 := w422
        have w445 : (u2 dt417 82 ((5 * (dt417 79 10)).toNat) 3) 79 10 = dt 79 10 := w423
        have w446 : (u2 dt417 82 ((5 * (dt417 79 10)).toNat) 3) 79 11 = dt 79 11 := w424
        have w447 : (u2 dt417 82 ((5 * (dt417 79 10)).toNat) 3) 79 12 = dt 79 12 := w425
        have w448 : (u2 dt417 82 ((5 * (dt417 79 10)).toNat) 3) 79 13 = dt417 79 13 := rfl
        have w449 : (u2 dt417 82 ((5 * (dt417 79 10)).toNat) 3) 79 14 = dt417 79 14 := rfl
        have w450 : (u2 dt417 82 ((5 * (dt417 79 10)).toNat) 3) 79 15 = dt417 79 15 := rfl
        have w451 : (u2 dt417 82 ((5 * (dt417 79 10)).toNat) 3) 79 16 = dt417 79 16 := rfl
        have w452 : (u2 dt417 82 ((5 * (dt417 79 10)).toNat) 3) 79 17 = dt 79 17 := w426
        have w453 : (u2 dt417 82 ((5 * (dt417 79 10)).toNat) 3) 79 18 = dt417 79 18 := rfl
        have w454 : (u2 dt417 82 ((5 * (dt417 79 10)).toNat) 3) 79 20 = dt 79 20 := w427
        have BL455 : ∀ j : Nat, (j : Int) < 5 * dt 79 10 → (u2 dt417 82 ((5 * (dt417 79 10)).toNat) 3) 82 j = dt 82 j := fun j hj => (u2_ne (by omega)).trans (BL428 j hj)
        have Y456 : (u2 dt417 82 ((5 * (dt417 79 10)).toNat) 3) 82 (5 * (dt 79 10)).toNat = 3 := by rw [show (5 * (dt 79 10)).toNat = (5 * (dt417 79 10)).toNat by first | with_reducible assumption | exact unhid (by with_reducible assumption) | omega]; exact u2_eq
        have hc457 : CUR 0 b n (u2 dt417 82 ((5 * (dt417 79 10)).toNat) 3) (i + 1) := CUR_sm hc430 rfl rfl rfl rfl
        refine go_smpq PM172 (L' := [some (.inr (.inr (some 79))), some (.inl 3)]) (st' := []) (w' := (SH, (u2 dt417 82 ((5 * (dt417 79 10)).toNat) 3))) rfl rfl (s_iast (n := 120) rfl ⟨by omega, by omega⟩ ⟨by decide, by decide⟩) ?_
        refine go_toq PM172 (k := 6) (pc' := 72) (L' := [some (.inr (.inr (some 79))), some (.inl 3)]) (st' := [.inl 3, .inl 1, .inr (.inr (some 79))]) (w' := (SH, (u2 dt417 82 ((5 * (dt417 79 10)).toNat) 3))) rfl ?_
        refine go_callq PM172 PM171 (Q' := _) rfl rfl rfl rfl (sp_X6_argument_g0 L xs sio (d + 0) (u2 dt417 82 ((5 * (dt417 79 10)).toNat) 3) hI441 b n t (i + 1) (by first | exact hbb | (rw [show (u2 dt417 82 ((5 * (dt417 79 10)).toNat) 3) 85 = dt 85 from funext (hF442 85 (by decide)), show (u2 dt417 82 ((5 * (dt417 79 10)).toNat) 3) 79 12 = dt 79 12 by first | with_reducible assumption | exact unhid (by with_reducible assumption) | fail]; exact hbb)) (by first | with_reducible assumption | exact unhid (by with_reducible assumption) | exact Eq.trans (by with_reducible assumption) hnn | fail) hz ht hc457 hi431 hn5 1 ⟨by decide, by decide⟩ 3 ⟨by decide, by decide⟩ (by first | exact True.intro | with_reducible assumption | exact unhid (by with_reducible assumption) | rfl | omega | trivial) (by first | exact True.intro | with_reducible assumption | exact unhid (by with_reducible assumption) | rfl | omega | trivial)) ?_
        rintro _ _ ⟨dt459, rfl, hI460, hF461, h458⟩
        refine ⟨rfl, ?_⟩
        have hF462 : Fr [79, 82] dt dt459 := Fr_tr hF442 hF461 (by decide)
        rcases h458 with ⟨rfl, h458⟩ | ⟨rfl, h458⟩
        · skip
          obtain ⟨h458_0, h458_1, h458_2, h458_3, h458_4⟩ := h458
          have w463 : dt459 79 2 = dt 79 2 := h458_1.trans w443
          have w464 : dt459 79 9 = dt 79 9 := h458_2.trans w444
          have w465 : dt459 79 10 = dt 79 10 := h458_3.trans w445
          have w466 : dt459 79 12 = dt 79 12 := h458_4.trans w447
          have fl467 := RSX_0 h458_0 rfl
          have fe468 : (gAF (KF 0 b n) (VF b n) (dt 79 10)) i = (gA (KF 0 b n) (VF b n) 3) (i + 1) := hp433.trans ((show (gAct (KF 0 b n) (VF b n) 3) (i + 1) = gB ((gA (KF 0 b n) (VF b n) 3) (i + 1)) (hA0 (KF 0 b n) (VF b n) 3 ((VF b n) (i + 1))) by exact hAc_n (by decide)).trans (gB_no fl467.1))
          clear h458_1 w443 h458_2 w444 h458_3 w445 h458_4 w447
          refine go_retq PM172 (k := 2) (r := some (.inl 0)) (w1 := (SH, dt459)) rfl ?_
          exact ⟨dt459, rfl, hI460, hF462, (Or.inl ⟨rfl, ⟨by exact RSX_f fe468 fl467 (by first | rfl | with_reducible assumption | exact unhid (by with_reducible assumption) | fail) (by first | rfl | with_reducible assumption | exact unhid (by with_reducible assumption) | fail), by first | exact True.intro | with_reducible assumption | exact unhid (by with_reducible assumption) | rfl | fail | trivial, by first | exact True.intro | with_reducible assumption | exact unhid (by with_reducible assumption) | rfl | fail | trivial, by first | exact True.intro | with_reducible assumption | exact unhid (by with_reducible assumption) | rfl | fail | trivial⟩⟩)⟩
        · skip
          obtain ⟨h458_0, h458_1, h458_2, h458_3, h458_4, h458_5, h458_6, h458_7, h458_8, h458_9, h458_10, h458_11⟩ := h458
          have w469 : dt459 79 2 = dt 79 2 := h458_5.trans w443
          have w470 : dt459 79 9 = dt 79 9 := h458_6.trans w444
          have w471 : dt459 79 10 = dt 79 10 := h458_7.trans w445
          have w472 : dt459 79 11 = dt 79 11 := h458_8.trans w446
          have w473 : dt459 79 12 = dt 79 12 := h458_9.trans w447
          have w474 : dt459 79 17 = dt 79 17 := h458_10.trans w452
          have w475 : dt459 79 20 = dt 79 20 := h458_11.trans w454
          have ee476 : (u2 dt417 82 ((5 * (dt417 79 10)).toNat) 3) 79 10 = dt 79 10 := by omega
          rw [ee476] at h458_1 h458_2
          have BL477 : ∀ j : Nat, (j : Int) < 5 * dt 79 10 → dt459 82 j = dt 82 j := fun j hj => (h458_2 j (by omega)).trans (BL455 j hj)
          have Y478 := (h458_2 _ (by omega)).trans Y456
          have Y479 := h458_1
          obtain ⟨j480, ej481, hc482⟩ := RSX_1 h458_0 (by decide)
          have hp483 : (gAF (KF 0 b n) (VF b n) (dt 79 10)) i = (hA0 (KF 0 b n) (VF b n) 3 ((VF b n) (i + 1))) j480 := hp433.trans ((show (gAct (KF 0 b n) (VF b n) 3) (i + 1) = gB ((gA (KF 0 b n) (VF b n) 3) (i + 1)) (hA0 (KF 0 b n) (VF b n) 3 ((VF b n) (i + 1))) by exact hAc_n (by decide)).trans (by rw [ej481]; exact gB_0))
          have hi484 : j480 ≤ t := by have z := gA_M (K := (KF 0 b n)) (V := (VF b n)) (m := 3) (i := (i + 1)) hz; rw [ej481] at z; have y := z rfl; simp only at y; omega
          clear cr434 cb435 cd435 cv436 ck437
          have cr485 := hid (CUR_R hc482 (.inl rfl))
          have cd486 := CUR_d (hc482)
          have cb486 := hid (CUR_b hc482)
          have cv487 := hid (CUR_v hc482)
          have ck488 := hid (KZ_lt (i := j480) hz)
          have c1489 := (hc482).1
          have ci490 := hi484
          have ej491 : j480 = (i + 1) + 1 := by have z_ := gA_at (K := (KF 0 b n)) (V := (VF b n)) (m := 3) (i := (i + 1)) (by rw [ej481]); rw [ej481] at z_; exact z_
          clear h458_5 w443 h458_6 w444 h458_7 w445 h458_8 w446 h458_9 w447 h458_10 w452 h458_11 w454
          refine go_toq PM172 (k := 13) (pc' := 148) (L' := [some (.inr (.inr (some 79))), some (.inl 3)]) (st' := [.inl 2, .inl 2, .inr (.inr (some 79))]) (w' := (SH, dt459)) rfl ?_
          refine go_callq PM172 PM171 (Q' := _) rfl rfl rfl rfl (sp_X6_argument_g0 L xs sio (d + 0) dt459 hI460 b n t j480 (by first | exact hbb | (rw [show dt459 85 = dt 85 from funext (hF462 85 (by decide)), show dt459 79 12 = dt 79 12 by first | with_reducible assumption | exact unhid (by with_reducible assumption) | fail]; exact hbb)) (by first | with_reducible assumption | exact unhid (by with_reducible assumption) | exact Eq.trans (by with_reducible assumption) hnn | fail) hz ht hc482 hi484 hn5 2 ⟨by decide, by decide⟩ 2 ⟨by decide, by decide⟩ (by first | exact True.intro | with_reducible assumption | exact unhid (by with_reducible assumption) | rfl | omega | trivial) (by first | exact True.intro | with_reducible assumption | exact unhid (by with_reducible assumption) | rfl | omega | trivial)) ?_
          rintro _ _ ⟨dt493, rfl, hI494, hF495, h492⟩
          refine ⟨rfl, ?_⟩
          have hF496 : Fr [79, 82] dt dt493 := Fr_tr hF462 hF495 (by decide)
          rcases h492 with ⟨rfl, h492⟩ | ⟨rfl, h492⟩
          · skip
            obtain ⟨h492_0, h492_1, h492_2, h492_3, h492_4⟩ := h492
            have w497 : dt493 79 2 = dt 79 2 := h492_1.trans w469
            have w498 : dt493 79 9 = dt 79 9 := h492_2.trans w470
            have w499 : dt493 79 10 = dt 79 10 := h492_3.trans w471
            have w500 : dt493 79 12 = dt 79 12 := h492_4.trans w473
            have fl501 := RSX_0 h492_0 rfl
            have fe502 : (gAF (KF 0 b n) (VF b n) (dt 79 10)) i = (gA (KF 0 b n) (VF b n) 2) j480 := hp483.trans ((show (hA0 (KF 0 b n) (VF b n) 3 ((VF b n) (i + 1))) j480 = gB ((gA (KF 0 b n) (VF b n) 2) j480) (hA2 (KF 0 b n) (VF b n) 3) by first | exact hA1_p (by decide) | (rw [hA0_n (by decide)]; exact hA1_p (by decide))).trans (gB_no fl501.1))
            clear h492_1 w469 h492_2 w470 h492_3 h492_4 w473
            refine go_retq PM172 (k := 2) (r := some (.inl 0)) (w1 := (SH, dt493)) rfl ?_
            exact ⟨dt493, rfl, hI494, hF496, (Or.inl ⟨rfl, ⟨by exact RSX_f fe502 fl501 (by first | rfl | with_reducible assumption | exact unhid (by with_reducible assumption) | fail) (by first | rfl | with_reducible assumption | exact unhid (by with_reducible assumption) | fail), by first | exact True.intro | with_reducible assumption | exact unhid (by with_reducible assumption) | rfl | fail | trivial, by first | exact True.intro | with_reducible assumption | exact unhid (by with_reducible assumption) | rfl | fail | trivial, by first | exact True.intro | with_reducible assumption | exact unhid (by with_reducible assumption) | rfl | fail | trivial⟩⟩)⟩
          · skip
            obtain ⟨h492_0, h492_1, h492_2, h492_3, h492_4, h492_5, h492_6, h492_7, h492_8, h492_9, h492_10, h492_11⟩ := h492
            have w503 : dt493 79 2 = dt 79 2 := h492_5.trans w469
            have w504 : dt493 79 9 = dt 79 9 := h492_6.trans w470
            have w505 : dt493 79 10 = dt 79 10 := h492_7.trans w471
            have w506 : dt493 79 11 = dt 79 11 := h492_8.trans w472
            have w507 : dt493 79 12 = dt 79 12 := h492_9.trans w473
            have w508 : dt493 79 17 = dt 79 17 := h492_10.trans w474
            have w509 : dt493 79 20 = dt 79 20 := h492_11.trans w475
            have ee510 : dt459 79 10 = dt 79 10 := by omega
            rw [ee510] at h492_1 h492_2
            have BL511 : ∀ j : Nat, (j : Int) < 5 * dt 79 10 → dt493 82 j = dt 82 j := fun j hj => (h492_2 j (by omega)).trans (BL477 j hj)
            have Y512 := (h492_2 _ (by omega)).trans Y478
            have Y513 := (h492_2 _ (by omega)).trans Y479
            have Y514 := h492_1
            obtain ⟨j515, ej516, hc517⟩ := RSX_1 h492_0 (by decide)
            have hp518 : (gAF (KF 0 b n) (VF b n) (dt 79 10)) i = (hA2 (KF 0 b n) (VF b n) 3) j515 := hp483.trans ((show (hA0 (KF 0 b n) (VF b n) 3 ((VF b n) (i + 1))) j480 = gB ((gA (KF 0 b n) (VF b n) 2) j480) (hA2 (KF 0 b n) (VF b n) 3) by first | exact hA1_p (by decide) | (rw [hA0_n (by decide)]; exact hA1_p (by decide))).trans (by rw [ej516]; exact gB_0))
            have hi519 : j515 ≤ t := by have z := gA_M (K := (KF 0 b n)) (V := (VF b n)) (m := 2) (i := j480) hz; rw [ej516] at z; have y := z rfl; simp only at y; omega
            clear cr485 cb486 cd486 cv487 ck488
            have cr520 := hid (CUR_R hc517 (.inl rfl))
            have cd521 := CUR_d (hc517)
            have cb521 := hid (CUR_b hc517)
            have cv522 := hid (CUR_v hc517)
            have ck523 := hid (KZ_lt (i := j515) hz)
            have c1524 := (hc517).1
            have ci525 := hi519
            have ej526 : j515 = j480 + 1 := by have z_ := gA_at (K := (KF 0 b n)) (V := (VF b n)) (m := 2) (i := j480) (by rw [ej516]); rw [ej516] at z_; exact z_
            clear h492_5 w469 h492_6 w470 h492_7 h492_8 h492_9 w473 h492_10 w474 h492_11 w475
            refine go_toq PM172 (k := 10) (pc' := 179) (L' := [some (.inr (.inr (some 79))), some (.inl 3)]) (st' := [.inl 3, .inl 3, .inr (.inr (some 79))]) (w' := (SH, dt493)) rfl ?_
            refine go_callq PM172 PM171 (Q' := _) rfl rfl rfl rfl (sp_X6_argument_g0 L xs sio (d + 0) dt493 hI494 b n t j515 (by first | exact hbb | (rw [show dt493 85 = dt 85 from funext (hF496 85 (by decide)), show dt493 79 12 = dt 79 12 by first | with_reducible assumption | exact unhid (by with_reducible assumption) | fail]; exact hbb)) (by first | with_reducible assumption | exact unhid (by with_reducible assumption) | exact Eq.trans (by with_reducible assumption) hnn | fail) hz ht hc517 hi519 hn5 3 ⟨by decide, by decide⟩ 3 ⟨by decide, by decide⟩ (by first | exact True.intro | with_reducible assumption | exact unhid (by with_reducible assumption) | rfl | omega | trivial) (by first | exact True.intro | with_reducible assumption | exact unhid (by with_reducible assumption) | rfl | omega | trivial)) ?_
            rintro _ _ ⟨dt528, rfl, hI529, hF530, h527⟩
            refine ⟨rfl, ?_⟩
            have hF531 : Fr [79, 82] dt dt528 := Fr_tr hF496 hF530 (by decide)
            rcases h527 with ⟨rfl, h527⟩ | ⟨rfl, h527⟩
            · skip
              obtain ⟨h527_0, h527_1, h527_2, h527_3, h527_4⟩ := h527
              have w532 : dt528 79 2 = dt 79 2 := h527_1.trans w503
              have w533 : dt528 79 9 = dt 79 9 := h527_2.trans w504
              have w534 : dt528 79 10 = dt 79 10 := h527_3.trans w505
              have w535 : dt528 79 12 = dt 79 12 := h527_4.trans w507
              have fl536 := RSX_0 h527_0 rfl
              have fe537 : (gAF (KF 0 b n) (VF b n) (dt 79 10)) i = (gA (KF 0 b n) (VF b n) 3) j515 := hp518.trans ((show (hA2 (KF 0 b n) (VF b n) 3) j515 = gB ((gA (KF 0 b n) (VF b n) 3) j515) (hA3 (KF 0 b n) (VF b n) 3) by first | exact hA2_p (by decide) | (rw [hA1_n (by decide)]; exact hA2_p (by decide)) | (rw [hA0_n (by decide), hA1_n (by decide)]; exact hA2_p (by decide))).trans (gB_no fl536.1))
              clear h527_1 w503 h527_2 w504 h527_3 h527_4 w507
              refine go_retq PM172 (k := 2) (r := some (.inl 0)) (w1 := (SH, dt528)) rfl ?_
              exact ⟨dt528, rfl, hI529, hF531, (Or.inl ⟨rfl, ⟨by exact RSX_f fe537 fl536 (by first | rfl | with_reducible assumption | exact unhid (by with_reducible assumption) | fail) (by first | rfl | with_reducible assumption | exact unhid (by with_reducible assumption) | fail), by first | exact True.intro | with_reducible assumption | exact unhid (by with_reducible assumption) | rfl | fail | trivial, by first | exact True.intro | with_reducible assumption | exact unhid (by with_reducible assumption) | rfl | fail | trivial, by first | exact True.intro | with_reducible assumption | exact unhid (by with_reducible assumption) | rfl | fail | trivial⟩⟩)⟩
            · skip
              obtain ⟨h527_0, h527_1, h527_2, h527_3, h527_4, h527_5, h527_6, h527_7, h527_8, h527_9, h527_10, h527_11⟩ := h527
              have w538 : dt528 79 2 = dt 79 2 := h527_5.trans w503
              have w539 : dt528 79 9 = dt 79 9 := h527_6.trans w504
              have w540 : dt528 79 10 = dt 79 10 := h527_7.trans w505
              have w541 : dt528 79 11 = dt 79 11 := h527_8.trans w506
              have w542 : dt528 79 12 = dt 79 12 := h527_9.trans w507
              have w543 : dt528 79 17 = dt 79 17 := h527_10.trans w508
              have w544 : dt528 79 20 = dt 79 20 := h527_11.trans w509
              have ee545 : dt493 79 10 = dt 79 10 := by omega
              rw [ee545] at h527_1 h527_2
              have BL546 : ∀ j : Nat, (j : Int) < 5 * dt 79 10 → dt528 82 j = dt 82 j := fun j hj => (h527_2 j (by omega)).trans (BL511 j hj)
              have Y547 := (h527_2 _ (by omega)).trans Y512
              have Y548 := (h527_2 _ (by omega)).trans Y513
              have Y549 := (h527_2 _ (by omega)).trans Y514
              have Y550 := h527_1
              obtain ⟨j551, ej552, hc553⟩ := RSX_1 h527_0 (by decide)
              have hp554 : (gAF (KF 0 b n) (VF b n) (dt 79 10)) i = (hA3 (KF 0 b n) (VF b n) 3) j551 := hp518.trans ((show (hA2 (KF 0 b n) (VF b n) 3) j515 = gB ((gA (KF 0 b n) (VF b n) 3) j515) (hA3 (KF 0 b n) (VF b n) 3) by first | exact hA2_p (by decide) | (rw [hA1_n (by decide)]; exact hA2_p (by decide)) | (rw [hA0_n (by decide), hA1_n (by decide)]; exact hA2_p (by decide))).trans (by rw [ej552]; exact gB_0))
              have hi555 : j551 ≤ t := by have z := gA_M (K := (KF 0 b n)) (V := (VF b n)) (m := 3) (i := j515) hz; rw [ej552] at z; have y := z rfl; simp only at y; omega
              clear cr520 cb521 cd521 cv522 ck523
              have cr556 := hid (CUR_R hc553 (.inl rfl))
              have cd557 := CUR_d (hc553)
              have cb557 := hid (CUR_b hc553)
              have cv558 := hid (CUR_v hc553)
              have ck559 := hid (KZ_lt (i := j551) hz)
              have c1560 := (hc553).1
              have ci561 := hi555
              have ej562 : j551 = j515 + 1 := by have z_ := gA_at (K := (KF 0 b n)) (V := (VF b n)) (m := 3) (i := j515) (by rw [ej552]); rw [ej552] at z_; exact z_
              clear h527_5 w503 h527_6 w504 h527_7 h527_8 h527_9 w507 h527_10 w508 h527_11 w509
              refine go_toq PM172 (k := 6) (pc' := 208) (L' := [some (.inr (.inr (some 79))), some (.inl 3)]) (st' := [.inl 159, .inr (.inr (some 79))]) (w' := (SH, dt528)) rfl ?_
              refine go_callq PM172 PM161 (Q' := _) rfl rfl rfl rfl (sp_X6_need0_g0 L xs sio (d + 1) dt528 hI529 b n t j551 (by first | exact hbb | (rw [show dt528 85 = dt 85 from funext (hF531 85 (by decide)), show dt528 79 12 = dt 79 12 by first | with_reducible assumption | exact unhid (by with_reducible assumption) | fail]; exact hbb)) (by first | with_reducible assumption | exact unhid (by with_reducible assumption) | exact Eq.trans (by with_reducible assumption) hnn | fail) hz ht hc553 hi555 hn5 159 ⟨by decide, by decide⟩ (by first | exact True.intro | with_reducible assumption | exact unhid (by with_reducible assumption) | rfl | omega | trivial)) ?_
              rintro _ _ ⟨dt564, rfl, hI565, hF566, h563⟩
              refine ⟨rfl, ?_⟩
              have hF567 : Fr [79, 82] dt dt564 := Fr_tr hF531 hF566 (by decide)
              rcases h563 with ⟨rfl, h563⟩ | ⟨rfl, h563⟩
              · skip
                obtain ⟨h563_0, h563_1, h563_2, h563_3, h563_4⟩ := h563
                have w568 : dt564 79 2 = dt 79 2 := h563_1.trans w538
                have w569 : dt564 79 9 = dt 79 9 := h563_2.trans w539
                have w570 : dt564 79 10 = dt 79 10 := h563_3.trans w540
                have w571 : dt564 79 12 = dt 79 12 := h563_4.trans w542
                have BL572 : ∀ j : Nat, (j : Int) < 5 * dt 79 10 → dt564 82 j = dt 82 j := fun j hj => (hF566 82 (by decide) j).trans (BL546 j hj)
                have Y573 := (hF566 82 (by decide) _).trans Y547
                have Y574 := (hF566 82 (by decide) _).trans Y548
                have Y575 := (hF566 82 (by decide) _).trans Y549
                have Y576 := (hF566 82 (by decide) _).trans Y550
                have fl577 := RSX_0 h563_0 rfl
                have fe578 : (gAF (KF 0 b n) (VF b n) (dt 79 10)) i = (gK (KF 0 b n) (159 - 100)) j551 := hp554.trans ((show (hA3 (KF 0 b n) (VF b n) 3) j551 = gB ((gK (KF 0 b n) (159 - 100)) j551) gOk by first | exact gB_id.symm | ((repeat (first | rw [hA0_n (by decide)] | rw [hA1_n (by decide)] | rw [hA2_n (by decide)] | rw [hA3_n (by decide)])); exact gB_id.symm)).trans (gB_no fl577.1))
                clear h563_1 w538 h563_2 w539 h563_3 h563_4 w542
                refine go_retq PM172 (k := 0) (r := some (.inl 0)) (w1 := (SH, dt564)) rfl ?_
                exact ⟨dt564, rfl, hI565, hF567, (Or.inl ⟨rfl, ⟨by exact RSX_f fe578 fl577 (by first | rfl | with_reducible assumption | exact unhid (by with_reducible assumption) | fail) (by first | rfl | with_reducible assumption | exact unhid (by with_reducible assumption) | fail), by first | exact True.intro | with_reducible assumption | exact unhid (by with_reducible assumption) | rfl | fail | trivial, by first | exact True.intro | with_reducible assumption | exact unhid (by with_reducible assumption) | rfl | fail | trivial, by first | exact True.intro | with_reducible assumption | exact unhid (by with_reducible assumption) | rfl | fail | trivial⟩⟩)⟩
              · skip
                obtain ⟨h563_0, h563_1, h563_2, h563_3, h563_4, h563_5, h563_6, h563_7, h563_8, h563_9⟩ := h563
                have w579 : dt564 79 2 = dt 79 2 := h563_3.trans w538
                have w580 : dt564 79 9 = dt 79 9 := h563_4.trans w539
                have w581 : dt564 79 10 = dt 79 10 := h563_5.trans w540
                have w582 : dt564 79 11 = dt 79 11 := h563_6.trans w541
                have w583 : dt564 79 12 = dt 79 12 := h563_7.trans w542
                have w584 : dt564 79 17 = dt 79 17 := h563_8.trans w543
                have w585 : dt564 79 20 = dt 79 20 := h563_9.trans w544
                have BL586 : ∀ j : Nat, (j : Int) < 5 * dt 79 10 → dt564 82 j = dt 82 j := fun j hj => (hF566 82 (by decide) j).trans (BL546 j hj)
                have Y587 := (hF566 82 (by decide) _).trans Y547
                have Y588 := (hF566 82 (by decide) _).trans Y548
                have Y589 := (hF566 82 (by decide) _).trans Y549
                have Y590 := (hF566 82 (by decide) _).trans Y550
                obtain ⟨j591, ej592, hc593⟩ := RSX_1 h563_0 (by decide)
                have hp594 : (gAF (KF 0 b n) (VF b n) (dt 79 10)) i = gOk j591 := hp554.trans ((show (hA3 (KF 0 b n) (VF b n) 3) j551 = gB ((gK (KF 0 b n) (159 - 100)) j551) gOk by first | exact gB_id.symm | ((repeat (first | rw [hA0_n (by decide)] | rw [hA1_n (by decide)] | rw [hA2_n (by decide)] | rw [hA3_n (by decide)])); exact gB_id.symm)).trans (by rw [ej592]; exact gB_0))
                have hi595 : j591 ≤ t := by have z := (fun (h : KZ (KF 0 b n) t) => gK_M (K := (KF 0 b n)) (k := 159 - 100) (i := j551) h (by decide)) hz; rw [ej592] at z; have y := z rfl; simp only at y; omega
                clear cr556 cb557 cd557 cv558 ck559
                have cr596 := hid (CUR_R hc593 (.inl rfl))
                have cd597 := CUR_d (hc593)
                have cb597 := hid (CUR_b hc593)
                have cv598 := hid (CUR_v hc593)
                have ck599 := hid (KZ_lt (i := j591) hz)
                have c1600 := (hc593).1
                have ci601 := hi595
                clear h563_3 w538 h563_4 w539 h563_5 h563_6 h563_7 w542 h563_8 w543 h563_9 w544
                refine go_retq PM172 (k := 0) (r := some (.inl 1)) (w1 := (SH, dt564)) rfl ?_
                exact ⟨dt564, rfl, hI565, hF567, (Or.inr ⟨rfl, ⟨by exact RSX_ok hp594 hc593, by first | exact True.intro | with_reducible assumption | exact unhid (by with_reducible assumption) | rfl | fail | trivial, by unfold ARF ATT ABB; exact ⟨by rw [Y587]; omega, Y588.trans (congrArg (VF b n) (by omega)), fun z_ => by (rw [if_neg (by omega)]; exact Y589.trans (congrArg (VF b n) (by omega))), fun z_ => by (rw [if_neg (by omega), if_pos (by omega)]; exact Y590.trans (congrArg (VF b n) (by omega))), fun z_ => by (exfalso; omega), fun z_ => by (exfalso; omega)⟩, by exact BL586, by first | exact True.intro | with_reducible assumption | exact unhid (by with_reducible assumption) | rfl | omega | trivial, by exact (InvC_get (by assumption) 79 15 rfl rfl).2, by first | exact True.intro | with_reducible assumption | exact unhid (by with_reducible assumption) | rfl | fail | trivial, by first | exact True.intro | with_reducible assumption | exact unhid (by with_reducible assumption) | rfl | fail | trivial, by first | exact True.intro | with_reducible assumption | exact unhid (by with_reducible assumption) | rfl | fail | trivial, by first | exact True.intro | with_reducible assumption | exact unhid (by with_reducible assumption) | rfl | fail | trivial, by first | exact True.intro | with_reducible assumption | exact unhid (by with_reducible assumption) | rfl | fail | trivial, by first | exact True.intro | with_reducible assumption | exact unhid (by with_reducible assumption) | rfl | fail | trivial⟩⟩)⟩
      · rw [hc7]
        refine go_toq PM172 (k := 1) (pc' := 44) (L' := [some (.inr (.inr (some 79))), some (.inl 4)]) (st' := [.inr (.inr (some 79))]) (w' := (SH, dt)) rfl ?_
        refine go_callq PM172 PM159 (Q' := _) rfl rfl rfl rfl (sp_X6_next0_p0 L xs sio (d + 2) dt hI   (by first | exact True.intro | with_reducible assumption | exact unhid (by with_reducible assumption) | rfl | omega | trivial) (by first | exact True.intro | with_reducible assumption | exact unhid (by with_reducible assumption) | rfl | fail | trivial)) ?_
        rintro _ _ ⟨dt603, rfl, hI604, hF605, h602⟩
        refine ⟨rfl, ?_⟩
        have hF606 : Fr [79, 82] dt dt603 := Fr_tr hF hF605 (by decide)
        rcases h602 with ⟨rfl, h602⟩
        obtain ⟨h602_0, h602_1, h602_2, h602_3, h602_4, h602_5, h602_6, h602_7, h602_8⟩ := h602
        have w607 : dt603 79 2 = dt 79 2 := h602_2
        have w608 : dt603 79 9 = dt 79 9 := h602_3
        have w609 : dt603 79 10 = dt 79 10 := h602_4
        have w610 : dt603 79 11 = dt 79 11 := h602_5
        have w611 : dt603 79 12 = dt 79 12 := h602_6
        have w612 : dt603 79 17 = dt 79 17 := h602_7
        have w613 : dt603 79 20 = dt 79 20 := h602_8
        have BL614 : ∀ j : Nat, (j : Int) < 5 * dt 79 10 → dt603 82 j = dt 82 j := fun j hj => (hF605 82 (by decide) j).trans ((fun _ _ => rfl) j hj)
        have hq615 := h602_0
        rw [hbb, show (dt 79 12).toNat = n from (congrArg Int.toNat hnn).trans (Int.toNat_natCast n)] at hq615
        have hc616 : CUR 0 b n dt603 (i + 1) := CUR_n hc hq615
        have hi617 : i + 1 ≤ t := by (have z_ := unhid u2_; omega)
        have av618 : dt 79 15 + 1 ≤ dt 79 13 := by (have z_ := unhid u2_; omega)
        have kk_ : KF 0 b n i = 1004 := by (have z_ := unhid u2_; omega)
        have hp619 : (gAF (KF 0 b n) (VF b n) (dt 79 10)) i = (gAct (KF 0 b n) (VF b n) 4) (i + 1) := (rfl : (gAF (KF 0 b n) (VF b n) (dt 79 10)) i = (gAF (KF 0 b n) (VF b n) (dt 79 10)) i).trans (by show gAF _ _ _ _ = _; unfold gAF; rw [if_neg (by (have z_ := unhid u2_; omega)), if_neg (by (have z_ := unhid u2_; omega)), show (KF 0 b n) i - 1000 = 4 by first | with_reducible assumption | exact unhid (by with_reducible assumption) | (have z_ := unhid u2_; omega)])
        clear cr0 cb0 cd0 cv0 ck0
        have cr620 := hid (CUR_R hc616 (.inl rfl))
        have cd621 := CUR_d (hc616)
        have cb621 := hid (CUR_b hc616)
        have cv622 := hid (CUR_v hc616)
        have ck623 := hid (KZ_lt (i := (i + 1)) hz)
        have c1624 := (hc616).1
        have ci625 := hi617
        clear h602_2 h602_3 h602_4 h602_5 h602_6 h602_7 h602_8
        have r626 : 0 ≤ dt603 79 10 ∧ dt603 79 10 ≤ 24 := InvC_get hI604 79 10 rfl rfl
        refine go_toq PM172 (k := 7) (pc' := 58) (L' := [some (.inr (.inr (some 79))), some (.inl 4)]) (st' := [.inl 4, .inl (5 * (dt603 79 10)), .inr (.inr (some 82))]) (w' := (SH, dt603)) rfl ?_
        have hI627 : InvC (u2 dt603 82 ((5 * (dt603 79 10)).toNat) 4) := InvC_u2 hI604 (lo := -2147483648) (hi := 2147483647) rfl rfl rfl (by decide) (by decide)
        have hF628 : Fr [79, 82] dt (u2 dt603 82 ((5 * (dt603 79 10)).toNat) 4) := Fr_u2 hF606 (by decide)
        have w629 : (u2 dt603 82 ((5 * (dt603 79 10)).toNat) 4) 79 2 = dt 79 2 := w607
        have w630 : (u2 dt603 82 ((5 * (dt603 79 10)).toNat) 4) 79 9 = dt 79 9 := w608
        have w631 : (u2 dt603 82 ((5 * (dt603 79 10)).toNat) 4) 79 10 = dt 79 10 := w609
        have w632 : (u2 dt603 82 ((5 * (dt603 79 10)).toNat) 4) 79 11 = dt 79 11 := w610
        have w633 : (u2 dt603 82 ((5 * (dt603 79 10)).toNat) 4) 79 12 = dt 79 12 := w611
        have w634 : (u2 dt603 82 ((5 * (dt603 79 10)).toNat) 4) 79 13 = dt603 79 13 := rfl
        have w635 : (u2 dt603 82 ((5 * (dt603 79 10)).toNat) 4) 79 14 = dt603 79 14 := rfl
        have w636 : (u2 dt603 82 ((5 * (dt603 79 10)).toNat) 4) 79 15 = dt603 79 15 := rfl
        have w637 : (u2 dt603 82 ((5 * (dt603 79 10)).toNat) 4) 79 16 = dt603 79 16 := rfl
        have w638 : (u2 dt603 82 ((5 * (dt603 79 10)).toNat) 4) 79 17 = dt 79 17 := w612
        have w639 : (u2 dt603 82 ((5 * (dt603 79 10)).toNat) 4) 79 18 = dt603 79 18 := rfl
        have w640 : (u2 dt603 82 ((5 * (dt603 79 10)).toNat) 4) 79 20 = dt 79 20 := w613
        have BL641 : ∀ j : Nat, (j : Int) < 5 * dt 79 10 → (u2 dt603 82 ((5 * (dt603 79 10)).toNat) 4) 82 j = dt 82 j := fun j hj => (u2_ne (by omega)).trans (BL614 j hj)
        have Y642 : (u2 dt603 82 ((5 * (dt603 79 10)).toNat) 4) 82 (5 * (dt 79 10)).toNat = 4 := by rw [show (5 * (dt 79 10)).toNat = (5 * (dt603 79 10)).toNat by first | with_reducible assumption | exact unhid (by with_reducible assumption) | omega]; exact u2_eq
        have hc643 : CUR 0 b n (u2 dt603 82 ((5 * (dt603 79 10)).toNat) 4) (i + 1) := CUR_sm hc616 rfl rfl rfl rfl
        refine go_smpq PM172 (L' := [some (.inr (.inr (some 79))), some (.inl 4)]) (st' := []) (w' := (SH, (u2 dt603 82 ((5 * (dt603 79 10)).toNat) 4))) rfl rfl (s_iast (n := 120) rfl ⟨by omega, by omega⟩ ⟨by decide, by decide⟩) ?_
        refine go_toq PM172 (k := 6) (pc' := 72) (L' := [some (.inr (.inr (some 79))), some (.inl 4)]) (st' := [.inl 3, .inl 1, .inr (.inr (some 79))]) (w' := (SH, (u2 dt603 82 ((5 * (dt603 79 10)).toNat) 4))) rfl ?_
        refine go_callq PM172 PM171 (Q' := _) rfl rfl rfl rfl (sp_X6_argument_g0 L xs sio (d + 0) (u2 dt603 82 ((5 * (dt603 79 10)).toNat) 4) hI627 b n t (i + 1) (by first | exact hbb | (rw [show (u2 dt603 82 ((5 * (dt603 79 10)).toNat) 4) 85 = dt 85 from funext (hF628 85 (by decide)), show (u2 dt603 82 ((5 * (dt603 79 10)).toNat) 4) 79 12 = dt 79 12 by first | with_reducible assumption | exact unhid (by with_reducible assumption) | fail]; exact hbb)) (by first | with_reducible assumption | exact unhid (by with_reducible assumption) | exact Eq.trans (by with_reducible assumption) hnn | fail) hz ht hc643 hi617 hn5 1 ⟨by decide, by decide⟩ 3 ⟨by decide, by decide⟩ (by first | exact True.intro | with_reducible assumption | exact unhid (by with_reducible assumption) | rfl | omega | trivial) (by first | exact True.intro | with_reducible assumption | exact unhid (by with_reducible assumption) | rfl | omega | trivial)) ?_
        rintro _ _ ⟨dt645, rfl, hI646, hF647, h644⟩
        refine ⟨rfl, ?_⟩
        have hF648 : Fr [79, 82] dt dt645 := Fr_tr hF628 hF647 (by decide)
        rcases h644 with ⟨rfl, h644⟩ | ⟨rfl, h644⟩
        · skip
          obtain ⟨h644_0, h644_1, h644_2, h644_3, h644_4⟩ := h644
          have w649 : dt645 79 2 = dt 79 2 := h644_1.trans w629
          have w650 : dt645 79 9 = dt 79 9 := h644_2.trans w630
          have w651 : dt645 79 10 = dt 79 10 := h644_3.trans w631
          have w652 : dt645 79 12 = dt 79 12 := h644_4.trans w633
          have fl653 := RSX_0 h644_0 rfl
          have fe654 : (gAF (KF 0 b n) (VF b n) (dt 79 10)) i = (gA (KF 0 b n) (VF b n) 3) (i + 1) := hp619.trans ((show (gAct (KF 0 b n) (VF b n) 4) (i + 1) = gB ((gA (KF 0 b n) (VF b n) 3) (i + 1)) (hA0 (KF 0 b n) (VF b n) 4 ((VF b n) (i + 1))) by exact hAc_n (by decide)).trans (gB_no fl653.1))
          clear h644_1 w629 h644_2 w630 h644_3 w631 h644_4 w633
          refine go_retq PM172 (k := 2) (r := some (.inl 0)) (w1 := (SH, dt645)) rfl ?_
          exact ⟨dt645, rfl, hI646, hF648, (Or.inl ⟨rfl, ⟨by exact RSX_f fe654 fl653 (by first | rfl | with_reducible assumption | exact unhid (by with_reducible assumption) | fail) (by first | rfl | with_reducible assumption | exact unhid (by with_reducible assumption) | fail), by first | exact True.intro | with_reducible assumption | exact unhid (by with_reducible assumption) | rfl | fail | trivial, by first | exact True.intro | with_reducible assumption | exact unhid (by with_reducible assumption) | rfl | fail | trivial, by first | exact True.intro | with_reducible assumption | exact unhid (by with_reducible assumption) | rfl | fail | trivial⟩⟩)⟩
        · skip
          obtain ⟨h644_0, h644_1, h644_2, h644_3, h644_4, h644_5, h644_6, h644_7, h644_8, h644_9, h644_10, h644_11⟩ := h644
          have w655 : dt645 79 2 = dt 79 2 := h644_5.trans w629
          have w656 : dt645 79 9 = dt 79 9 := h644_6.trans w630
          have w657 : dt645 79 10 = dt 79 10 := h644_7.trans w631
          have w658 : dt645 79 11 = dt 79 11 := h644_8.trans w632
          have w659 : dt645 79 12 = dt 79 12 := h644_9.trans w633
          have w660 : dt645 79 17 = dt 79 17 := h644_10.trans w638
          have w661 : dt645 79 20 = dt 79 20 := h644_11.trans w640
          have ee662 : (u2 dt603 82 ((5 * (dt603 79 10)).toNat) 4) 79 10 = dt 79 10 := by omega
          rw [ee662] at h644_1 h644_2
          have hr_ : dt645 82 ((5 * (dt645 79 10)) + 1).toNat = VF b n (i + 1) := by rw [show dt645 79 10 = dt 79 10 by first | with_reducible assumption | exact unhid (by with_reducible assumption) | fail]; exact h644_1
          have BL663 : ∀ j : Nat, (j : Int) < 5 * dt 79 10 → dt645 82 j = dt 82 j := fun j hj => (h644_2 j (by omega)).trans (BL641 j hj)
          have Y664 := (h644_2 _ (by omega)).trans Y642
          have Y665 := h644_1
          obtain ⟨j666, ej667, hc668⟩ := RSX_1 h644_0 (by decide)
          have hp669 : (gAF (KF 0 b n) (VF b n) (dt 79 10)) i = (hA0 (KF 0 b n) (VF b n) 4 ((VF b n) (i + 1))) j666 := hp619.trans ((show (gAct (KF 0 b n) (VF b n) 4) (i + 1) = gB ((gA (KF 0 b n) (VF b n) 3) (i + 1)) (hA0 (KF 0 b n) (VF b n) 4 ((VF b n) (i + 1))) by exact hAc_n (by decide)).trans (by rw [ej667]; exact gB_0))
          have hi670 : j666 ≤ t := by have z := gA_M (K := (KF 0 b n)) (V := (VF b n)) (m := 3) (i := (i + 1)) hz; rw [ej667] at z; have y := z rfl; simp only at y; omega
          clear cr620 cb621 cd621 cv622 ck623
          have cr671 := hid (CUR_R hc668 (.inl rfl))
          have cd672 := CUR_d (hc668)
          have cb672 := hid (CUR_b hc668)
          have cv673 := hid (CUR_v hc668)
          have ck674 := hid (KZ_lt (i := j666) hz)
          have c1675 := (hc668).1
          have ci676 := hi670
          have ej677 : j666 = (i + 1) + 1 := by have z_ := gA_at (K := (KF 0 b n)) (V := (VF b n)) (m := 3) (i := (i + 1)) (by rw [ej667]); rw [ej667] at z_; exact z_
          clear h644_5 w629 h644_6 w630 h644_7 w631 h644_8 w632 h644_9 w633 h644_10 w638 h644_11 w640
          have r678 : (-2147483648) ≤ dt645 79 14 ∧ dt645 79 14 ≤ 2147483647 := InvC_get hI646 79 14 rfl rfl
          have u20_ := hid (And.intro (unhid c6) (And.intro (unhid cr671) (And.intro (unhid cb672) (And.intro (unhid cv673) (unhid ck674)))))
          refine go_ifq PM172 (k := 7) (p1 := 119) (p2 := 93) (L' := [some (.inr (.inr (some 79))), some (.inl 4)]) (st' := []) (w' := (SH, dt645)) rfl (c_ne (a := dt645 79 14) (b := 2) (by first | exact bnd r678 (by decide) (by decide) | exact ⟨by fail, by fail⟩) ⟨by decide, by decide⟩) (fun c679 => ?_) (fun c679 => ?_)
          · skip
            replace c679 := hid c679
            refine go_toq PM172 (k := 3) (pc' := 122) (L' := [some (.inr (.inr (some 79))), some (.inl 4)]) (st' := [.inl 3, .inl 4, .inr (.inr (some 79))]) (w' := (SH, dt645)) rfl ?_
            have u21_ := hid (And.intro (unhid c6) (And.intro (unhid cr671) (And.intro (unhid cb672) (And.intro (unhid cv673) (And.intro (unhid ck674) (unhid c679))))))
            refine go_callq PM172 PM171 (Q' := _) rfl rfl rfl rfl (sp_X6_argument_g0 L xs sio (d + 0) dt645 hI646 b n t j666 (by first | exact hbb | (rw [show dt645 85 = dt 85 from funext (hF648 85 (by decide)), show dt645 79 12 = dt 79 12 by first | with_reducible assumption | exact unhid (by with_reducible assumption) | fail]; exact hbb)) (by first | with_reducible assumption | exact unhid (by with_reducible assumption) | exact Eq.trans (by with_reducible assumption) hnn | fail) hz ht hc668 hi670 hn5 4 ⟨by decide, by decide⟩ 3 ⟨by decide, by decide⟩ (by first | exact True.intro | with_reducible assumption | exact unhid (by with_reducible assumption) | rfl | omega | trivial) (by first | exact True.intro | with_reducible assumption | exact unhid (by with_reducible assumption) | rfl | omega | trivial)) ?_
            rintro _ _ ⟨dt681, rfl, hI682, hF683, h680⟩
            refine ⟨rfl, ?_⟩
            have hF684 : Fr [79, 82] dt dt681 := Fr_tr hF648 hF683 (by decide)
            rcases h680 with ⟨rfl, h680⟩ | ⟨rfl, h680⟩
            · skip
              obtain ⟨h680_0, h680_1, h680_2, h680_3, h680_4⟩ := h680
              have w685 : dt681 79 2 = dt 79 2 := h680_1.trans w655
              have w686 : dt681 79 9 = dt 79 9 := h680_2.trans w656
              have w687 : dt681 79 10 = dt 79 10 := h680_3.trans w657
              have w688 : dt681 79 12 = dt 79 12 := h680_4.trans w659
              have fl689 := RSX_0 h680_0 rfl
              have fe690 : (gAF (KF 0 b n) (VF b n) (dt 79 10)) i = (gA (KF 0 b n) (VF b n) 3) j666 := hp669.trans ((show (hA0 (KF 0 b n) (VF b n) 4 ((VF b n) (i + 1))) j666 = gB ((gA (KF 0 b n) (VF b n) 3) j666) (hA1 (KF 0 b n) (VF b n) 4) by exact (hA0_p rfl).trans (by unfold gOt; rw [if_neg (by (have z_ := unhid u21_; omega))])).trans (gB_no fl689.1))
              clear h680_1 w655 h680_2 w656 h680_3 h680_4 w659
              refine go_retq PM172 (k := 2) (r := some (.inl 0)) (w1 := (SH, dt681)) rfl ?_
              exact ⟨dt681, rfl, hI682, hF684, (Or.inl ⟨rfl, ⟨by exact RSX_f fe690 fl689 (by first | rfl | with_reducible assumption | exact unhid (by with_reducible assumption) | fail) (by first | rfl | with_reducible assumption | exact unhid (by with_reducible assumption) | fail), by first | exact True.intro | with_reducible assumption | exact unhid (by with_reducible assumption) | rfl | fail | trivial, by first | exact True.intro | with_reducible assumption | exact unhid (by with_reducible assumption) | rfl | fail | trivial, by first | exact True.intro | with_reducible assumption | exact unhid (by with_reducible assumption) | rfl | fail | trivial⟩⟩)⟩
            · skip
              obtain ⟨h680_0, h680_1, h680_2, h680_3, h680_4, h680_5, h680_6, h680_7, h680_8, h680_9, h680_10, h680_11⟩ := h680
              have w691 : dt681 79 2 = dt 79 2 := h680_5.trans w655
              have w692 : dt681 79 9 = dt 79 9 := h680_6.trans w656
              have w693 : dt681 79 10 = dt 79 10 := h680_7.trans w657
              have w694 : dt681 79 11 = dt 79 11 := h680_8.trans w658
              have w695 : dt681 79 12 = dt 79 12 := h680_9.trans w659
              have w696 : dt681 79 17 = dt 79 17 := h680_10.trans w660
              have w697 : dt681 79 20 = dt 79 20 := h680_11.trans w661
              have ee698 : dt645 79 10 = dt 79 10 := by omega
              rw [ee698] at h680_1 h680_2
              have BL699 : ∀ j : Nat, (j : Int) < 5 * dt 79 10 → dt681 82 j = dt 82 j := fun j hj => (h680_2 j (by omega)).trans (BL663 j hj)
              have Y700 := (h680_2 _ (by omega)).trans Y664
              have Y701 := (h680_2 _ (by omega)).trans Y665
              have Y702 := h680_1
              obtain ⟨j703, ej704, hc705⟩ := RSX_1 h680_0 (by decide)
              have hp706 : (gAF (KF 0 b n) (VF b n) (dt 79 10)) i = (hA1 (KF 0 b n) (VF b n) 4) j703 := hp669.trans ((show (hA0 (KF 0 b n) (VF b n) 4 ((VF b n) (i + 1))) j666 = gB ((gA (KF 0 b n) (VF b n) 3) j666) (hA1 (KF 0 b n) (VF b n) 4) by exact (hA0_p rfl).trans (by unfold gOt; rw [if_neg (by (have z_ := unhid u21_; omega))])).trans (by rw [ej704]; exact gB_0))
              have hi707 : j703 ≤ t := by have z := gA_M (K := (KF 0 b n)) (V := (VF b n)) (m := 3) (i := j666) hz; rw [ej704] at z; have y := z rfl; simp only at y; omega
              clear cr671 cb672 cd672 cv673 ck674
              have cr708 := hid (CUR_R hc705 (.inl rfl))
              have cd709 := CUR_d (hc705)
              have cb709 := hid (CUR_b hc705)
              have cv710 := hid (CUR_v hc705)
              have ck711 := hid (KZ_lt (i := j703) hz)
              have c1712 := (hc705).1
              have ci713 := hi707
              have ej714 : j703 = j666 + 1 := by have z_ := gA_at (K := (KF 0 b n)) (V := (VF b n)) (m := 3) (i := j666) (by rw [ej704]); rw [ej704] at z_; exact z_
              clear h680_5 w655 h680_6 w656 h680_7 h680_8 h680_9 w659 h680_10 w660 h680_11 w661
              refine go_toq PM172 (k := 13) (pc' := 148) (L' := [some (.inr (.inr (some 79))), some (.inl 4)]) (st' := [.inl 2, .inl 2, .inr (.inr (some 79))]) (w' := (SH, dt681)) rfl ?_
              refine go_callq PM172 PM171 (Q' := _) rfl rfl rfl rfl (sp_X6_argument_g0 L xs sio (d + 0) dt681 hI682 b n t j703 (by first | exact hbb | (rw [show dt681 85 = dt 85 from funext (hF684 85 (by decide)), show dt681 79 12 = dt 79 12 by first | with_reducible assumption | exact unhid (by with_reducible assumption) | fail]; exact hbb)) (by first | with_reducible assumption | exact unhid (by with_reducible assumption) | exact Eq.trans (by with_reducible assumption) hnn | fail) hz ht hc705 hi707 hn5 2 ⟨by decide, by decide⟩ 2 ⟨by decide, by decide⟩ (by first | exact True.intro | with_reducible assumption | exact unhid (by with_reducible assumption) | rfl | omega | trivial) (by first | exact True.intro | with_reducible assumption | exact unhid (by with_reducible assumption) | rfl | omega | trivial)) ?_
              rintro _ _ ⟨dt716, rfl, hI717, hF718, h715⟩
              refine ⟨rfl, ?_⟩
              have hF719 : Fr [79, 82] dt dt716 := Fr_tr hF684 hF718 (by decide)
              rcases h715 with ⟨rfl, h715⟩ | ⟨rfl, h715⟩
              · skip
                obtain ⟨h715_0, h715_1, h715_2, h715_3, h715_4⟩ := h715
                have w720 : dt716 79 2 = dt 79 2 := h715_1.trans w691
                have w721 : dt716 79 9 = dt 79 9 := h715_2.trans w692
                have w722 : dt716 79 10 = dt 79 10 := h715_3.trans w693
                have w723 : dt716 79 12 = dt 79 12 := h715_4.trans w695
                have fl724 := RSX_0 h715_0 rfl
                have fe725 : (gAF (KF 0 b n) (VF b n) (dt 79 10)) i = (gA (KF 0 b n) (VF b n) 2) j703 := hp706.trans ((show (hA1 (KF 0 b n) (VF b n) 4) j703 = gB ((gA (KF 0 b n) (VF b n) 2) j703) (hA2 (KF 0 b n) (VF b n) 4) by first | exact hA1_p (by decide) | (rw [hA0_n (by decide)]; exact hA1_p (by decide))).trans (gB_no fl724.1))
                clear h715_1 w691 h715_2 w692 h715_3 h715_4 w695
                refine go_retq PM172 (k := 2) (r := some (.inl 0)) (w1 := (SH, dt716)) rfl ?_
                exact ⟨dt716, rfl, hI717, hF719, (Or.inl ⟨rfl, ⟨by exact RSX_f fe725 fl724 (by first | rfl | with_reducible assumption | exact unhid (by with_reducible assumption) | fail) (by first | rfl | with_reducible assumption | exact unhid (by with_reducible assumption) | fail), by first | exact True.intro | with_reducible assumption | exact unhid (by with_reducible assumption) | rfl | fail | trivial, by first | exact True.intro | with_reducible assumption | exact unhid (by with_reducible assumption) | rfl | fail | trivial, by first | exact True.intro | with_reducible assumption | exact unhid (by with_reducible assumption) | rfl | fail | trivial⟩⟩)⟩
              · skip
                obtain ⟨h715_0, h715_1, h715_2, h715_3, h715_4, h715_5, h715_6, h715_7, h715_8, h715_9, h715_10, h715_11⟩ := h715
                have w726 : dt716 79 2 = dt 79 2 := h715_5.trans w691
                have w727 : dt716 79 9 = dt 79 9 := h715_6.trans w692
                have w728 : dt716 79 10 = dt 79 10 := h715_7.trans w693
                have w729 : dt716 79 11 = dt 79 11 := h715_8.trans w694
                have w730 : dt716 79 12 = dt 79 12 := h715_9.trans w695
                have w731 : dt716 79 17 = dt 79 17 := h715_10.trans w696
                have w732 : dt716 79 20 = dt 79 20 := h715_11.trans w697
                have ee733 : dt681 79 10 = dt 79 10 := by omega
                rw [ee733] at h715_1 h715_2
                have BL734 : ∀ j : Nat, (j : Int) < 5 * dt 79 10 → dt716 82 j = dt 82 j := fun j hj => (h715_2 j (by omega)).trans (BL699 j hj)
                have Y735 := (h715_2 _ (by omega)).trans Y700
                have Y736 := (h715_2 _ (by omega)).trans Y701
                have Y737 := (h715_2 _ (by omega)).trans Y702
                have Y738 := h715_1
                obtain ⟨j739, ej740, hc741⟩ := RSX_1 h715_0 (by decide)
                have hp742 : (gAF (KF 0 b n) (VF b n) (dt 79 10)) i = (hA2 (KF 0 b n) (VF b n) 4) j739 := hp706.trans ((show (hA1 (KF 0 b n) (VF b n) 4) j703 = gB ((gA (KF 0 b n) (VF b n) 2) j703) (hA2 (KF 0 b n) (VF b n) 4) by first | exact hA1_p (by decide) | (rw [hA0_n (by decide)]; exact hA1_p (by decide))).trans (by rw [ej740]; exact gB_0))
                have hi743 : j739 ≤ t := by have z := gA_M (K := (KF 0 b n)) (V := (VF b n)) (m := 2) (i := j703) hz; rw [ej740] at z; have y := z rfl; simp only at y; omega
                clear cr708 cb709 cd709 cv710 ck711
                have cr744 := hid (CUR_R hc741 (.inl rfl))
                have cd745 := CUR_d (hc741)
                have cb745 := hid (CUR_b hc741)
                have cv746 := hid (CUR_v hc741)
                have ck747 := hid (KZ_lt (i := j739) hz)
                have c1748 := (hc741).1
                have ci749 := hi743
                have ej750 : j739 = j703 + 1 := by have z_ := gA_at (K := (KF 0 b n)) (V := (VF b n)) (m := 2) (i := j703) (by rw [ej740]); rw [ej740] at z_; exact z_
                clear h715_5 w691 h715_6 w692 h715_7 h715_8 h715_9 w695 h715_10 w696 h715_11 w697
                refine go_toq PM172 (k := 13) (pc' := 179) (L' := [some (.inr (.inr (some 79))), some (.inl 4)]) (st' := [.inl 3, .inl 3, .inr (.inr (some 79))]) (w' := (SH, dt716)) rfl ?_
                refine go_callq PM172 PM171 (Q' := _) rfl rfl rfl rfl (sp_X6_argument_g0 L xs sio (d + 0) dt716 hI717 b n t j739 (by first | exact hbb | (rw [show dt716 85 = dt 85 from funext (hF719 85 (by decide)), show dt716 79 12 = dt 79 12 by first | with_reducible assumption | exact unhid (by with_reducible assumption) | fail]; exact hbb)) (by first | with_reducible assumption | exact unhid (by with_reducible assumption) | exact Eq.trans (by with_reducible assumption) hnn | fail) hz ht hc741 hi743 hn5 3 ⟨by decide, by decide⟩ 3 ⟨by decide, by decide⟩ (by first | exact True.intro | with_reducible assumption | exact unhid (by with_reducible assumption) | rfl | omega | trivial) (by first | exact True.intro | with_reducible assumption | exact unhid (by with_reducible assumption) | rfl | omega | trivial)) ?_
                rintro _ _ ⟨dt752, rfl, hI753, hF754, h751⟩
                refine ⟨rfl, ?_⟩
                have hF755 : Fr [79, 82] dt dt752 := Fr_tr hF719 hF754 (by decide)
                rcases h751 with ⟨rfl, h751⟩ | ⟨rfl, h751⟩
                · skip
                  obtain ⟨h751_0, h751_1, h751_2, h751_3, h751_4⟩ := h751
                  have w756 : dt752 79 2 = dt 79 2 := h751_1.trans w726
                  have w757 : dt752 79 9 = dt 79 9 := h751_2.trans w727
                  have w758 : dt752 79 10 = dt 79 10 := h751_3.trans w728
                  have w759 : dt752 79 12 = dt 79 12 := h751_4.trans w730
                  have fl760 := RSX_0 h751_0 rfl
                  have fe761 : (gAF (KF 0 b n) (VF b n) (dt 79 10)) i = (gA (KF 0 b n) (VF b n) 3) j739 := hp742.trans ((show (hA2 (KF 0 b n) (VF b n) 4) j739 = gB ((gA (KF 0 b n) (VF b n) 3) j739) (hA3 (KF 0 b n) (VF b n) 4) by first | exact hA2_p (by decide) | (rw [hA1_n (by decide)]; exact hA2_p (by decide)) | (rw [hA0_n (by decide), hA1_n (by decide)]; exact hA2_p (by decide))).trans (gB_no fl760.1))
                  clear h751_1 w726 h751_2 w727 h751_3 h751_4 w730
                  refine go_retq PM172 (k := 2) (r := some (.inl 0)) (w1 := (SH, dt752)) rfl ?_
                  exact ⟨dt752, rfl, hI753, hF755, (Or.inl ⟨rfl, ⟨by exact RSX_f fe761 fl760 (by first | rfl | with_reducible assumption | exact unhid (by with_reducible assumption) | fail) (by first | rfl | with_reducible assumption | exact unhid (by with_reducible assumption) | fail), by first | exact True.intro | with_reducible assumption | exact unhid (by with_reducible assumption) | rfl | fail | trivial, by first | exact True.intro | with_reducible assumption | exact unhid (by with_reducible assumption) | rfl | fail | trivial, by first | exact True.intro | with_reducible assumption | exact unhid (by with_reducible assumption) | rfl | fail | trivial⟩⟩)⟩
                · skip
                  obtain ⟨h751_0, h751_1, h751_2, h751_3, h751_4, h751_5, h751_6, h751_7, h751_8, h751_9, h751_10, h751_11⟩ := h751
                  have w762 : dt752 79 2 = dt 79 2 := h751_5.trans w726
                  have w763 : dt752 79 9 = dt 79 9 := h751_6.trans w727
                  have w764 : dt752 79 10 = dt 79 10 := h751_7.trans w728
                  have w765 : dt752 79 11 = dt 79 11 := h751_8.trans w729
                  have w766 : dt752 79 12 = dt 79 12 := h751_9.trans w730
                  have w767 : dt752 79 17 = dt 79 17 := h751_10.trans w731
                  have w768 : dt752 79 20 = dt 79 20 := h751_11.trans w732
                  have ee769 : dt716 79 10 = dt 79 10 := by omega
                  rw [ee769] at h751_1 h751_2
                  have BL770 : ∀ j : Nat, (j : Int) < 5 * dt 79 10 → dt752 82 j = dt 82 j := fun j hj => (h751_2 j (by omega)).trans (BL734 j hj)
                  have Y771 := (h751_2 _ (by omega)).trans Y735
                  have Y772 := (h751_2 _ (by omega)).trans Y736
                  have Y773 := (h751_2 _ (by omega)).trans Y737
                  have Y774 := (h751_2 _ (by omega)).trans Y738
                  have Y775 := h751_1
                  obtain ⟨j776, ej777, hc778⟩ := RSX_1 h751_0 (by decide)
                  have hp779 : (gAF (KF 0 b n) (VF b n) (dt 79 10)) i = (hA3 (KF 0 b n) (VF b n) 4) j776 := hp742.trans ((show (hA2 (KF 0 b n) (VF b n) 4) j739 = gB ((gA (KF 0 b n) (VF b n) 3) j739) (hA3 (KF 0 b n) (VF b n) 4) by first | exact hA2_p (by decide) | (rw [hA1_n (by decide)]; exact hA2_p (by decide)) | (rw [hA0_n (by decide), hA1_n (by decide)]; exact hA2_p (by decide))).trans (by rw [ej777]; exact gB_0))
                  have hi780 : j776 ≤ t := by have z := gA_M (K := (KF 0 b n)) (V := (VF b n)) (m := 3) (i := j739) hz; rw [ej777] at z; have y := z rfl; simp only at y; omega
                  clear cr744 cb745 cd745 cv746 ck747
                  have cr781 := hid (CUR_R hc778 (.inl rfl))
                  have cd782 := CUR_d (hc778)
                  have cb782 := hid (CUR_b hc778)
                  have cv783 := hid (CUR_v hc778)
                  have ck784 := hid (KZ_lt (i := j776) hz)
                  have c1785 := (hc778).1
                  have ci786 := hi780
                  have ej787 : j776 = j739 + 1 := by have z_ := gA_at (K := (KF 0 b n)) (V := (VF b n)) (m := 3) (i := j739) (by rw [ej777]); rw [ej777] at z_; exact z_
                  clear h751_5 w726 h751_6 w727 h751_7 h751_8 h751_9 w730 h751_10 w731 h751_11 w732
                  refine go_toq PM172 (k := 6) (pc' := 208) (L' := [some (.inr (.inr (some 79))), some (.inl 4)]) (st' := [.inl 159, .inr (.inr (some 79))]) (w' := (SH, dt752)) rfl ?_
                  refine go_callq PM172 PM161 (Q' := _) rfl rfl rfl rfl (sp_X6_need0_g0 L xs sio (d + 1) dt752 hI753 b n t j776 (by first | exact hbb | (rw [show dt752 85 = dt 85 from funext (hF755 85 (by decide)), show dt752 79 12 = dt 79 12 by first | with_reducible assumption | exact unhid (by with_reducible assumption) | fail]; exact hbb)) (by first | with_reducible assumption | exact unhid (by with_reducible assumption) | exact Eq.trans (by with_reducible assumption) hnn | fail) hz ht hc778 hi780 hn5 159 ⟨by decide, by decide⟩ (by first | exact True.intro | with_reducible assumption | exact unhid (by with_reducible assumption) | rfl | omega | trivial)) ?_
                  rintro _ _ ⟨dt789, rfl, hI790, hF791, h788⟩
                  refine ⟨rfl, ?_⟩
                  have hF792 : Fr [79, 82] dt dt789 := Fr_tr hF755 hF791 (by decide)
                  rcases h788 with ⟨rfl, h788⟩ | ⟨rfl, h788⟩
                  · skip
                    obtain ⟨h788_0, h788_1, h788_2, h788_3, h788_4⟩ := h788
                    have w793 : dt789 79 2 = dt 79 2 := h788_1.trans w762
                    have w794 : dt789 79 9 = dt 79 9 := h788_2.trans w763
                    have w795 : dt789 79 10 = dt 79 10 := h788_3.trans w764
                    have w796 : dt789 79 12 = dt 79 12 := h788_4.trans w766
                    have BL797 : ∀ j : Nat, (j : Int) < 5 * dt 79 10 → dt789 82 j = dt 82 j := fun j hj => (hF791 82 (by decide) j).trans (BL770 j hj)
                    have Y798 := (hF791 82 (by decide) _).trans Y771
                    have Y799 := (hF791 82 (by decide) _).trans Y772
                    have Y800 := (hF791 82 (by decide) _).trans Y773
                    have Y801 := (hF791 82 (by decide) _).trans Y774
                    have Y802 := (hF791 82 (by decide) _).trans Y775
                    have fl803 := RSX_0 h788_0 rfl
                    have fe804 : (gAF (KF 0 b n) (VF b n) (dt 79 10)) i = (gK (KF 0 b n) (159 - 100)) j776 := hp779.trans ((show (hA3 (KF 0 b n) (VF b n) 4) j776 = gB ((gK (KF 0 b n) (159 - 100)) j776) gOk by first | exact gB_id.symm | ((repeat (first | rw [hA0_n (by decide)] | rw [hA1_n (by decide)] | rw [hA2_n (by decide)] | rw [hA3_n (by decide)])); exact gB_id.symm)).trans (gB_no fl803.1))
                    clear h788_1 w762 h788_2 w763 h788_3 h788_4 w766
                    refine go_retq PM172 (k := 0) (r := some (.inl 0)) (w1 := (SH, dt789)) rfl ?_
                    exact ⟨dt789, rfl, hI790, hF792, (Or.inl ⟨rfl, ⟨by exact RSX_f fe804 fl803 (by first | rfl | with_reducible assumption | exact unhid (by with_reducible assumption) | fail) (by first | rfl | with_reducible assumption | exact unhid (by with_reducible assumption) | fail), by first | exact True.intro | with_reducible assumption | exact unhid (by with_reducible assumption) | rfl | fail | trivial, by first | exact True.intro | with_reducible assumption | exact unhid (by with_reducible assumption) | rfl | fail | trivial, by first | exact True.intro | with_reducible assumption | exact unhid (by with_reducible assumption) | rfl | fail | trivial⟩⟩)⟩
                  · skip
                    obtain ⟨h788_0, h788_1, h788_2, h788_3, h788_4, h788_5, h788_6, h788_7, h788_8, h788_9⟩ := h788
                    have w805 : dt789 79 2 = dt 79 2 := h788_3.trans w762
                    have w806 : dt789 79 9 = dt 79 9 := h788_4.trans w763
                    have w807 : dt789 79 10 = dt 79 10 := h788_5.trans w764
                    have w808 : dt789 79 11 = dt 79 11 := h788_6.trans w765
                    have w809 : dt789 79 12 = dt 79 12 := h788_7.trans w766
                    have w810 : dt789 79 17 = dt 79 17 := h788_8.trans w767
                    have w811 : dt789 79 20 = dt 79 20 := h788_9.trans w768
                    have BL812 : ∀ j : Nat, (j : Int) < 5 * dt 79 10 → dt789 82 j = dt 82 j := fun j hj => (hF791 82 (by decide) j).trans (BL770 j hj)
                    have Y813 := (hF791 82 (by decide) _).trans Y771
                    have Y814 := (hF791 82 (by decide) _).trans Y772
                    have Y815 := (hF791 82 (by decide) _).trans Y773
                    have Y816 := (hF791 82 (by decide) _).trans Y774
                    have Y817 := (hF791 82 (by decide) _).trans Y775
                    obtain ⟨j818, ej819, hc820⟩ := RSX_1 h788_0 (by decide)
                    have hp821 : (gAF (KF 0 b n) (VF b n) (dt 79 10)) i = gOk j818 := hp779.trans ((show (hA3 (KF 0 b n) (VF b n) 4) j776 = gB ((gK (KF 0 b n) (159 - 100)) j776) gOk by first | exact gB_id.symm | ((repeat (first | rw [hA0_n (by decide)] | rw [hA1_n (by decide)] | rw [hA2_n (by decide)] | rw [hA3_n (by decide)])); exact gB_id.symm)).trans (by rw [ej819]; exact gB_0))
                    have hi822 : j818 ≤ t := by have z := (fun (h : KZ (KF 0 b n) t) => gK_M (K := (KF 0 b n)) (k := 159 - 100) (i := j776) h (by decide)) hz; rw [ej819] at z; have y := z rfl; simp only at y; omega
                    clear cr781 cb782 cd782 cv783 ck784
                    have cr823 := hid (CUR_R hc820 (.inl rfl))
                    have cd824 := CUR_d (hc820)
                    have cb824 := hid (CUR_b hc820)
                    have cv825 := hid (CUR_v hc820)
                    have ck826 := hid (KZ_lt (i := j818) hz)
                    have c1827 := (hc820).1
                    have ci828 := hi822
                    clear h788_3 w762 h788_4 w763 h788_5 h788_6 h788_7 w766 h788_8 w767 h788_9 w768
                    refine go_retq PM172 (k := 0) (r := some (.inl 1)) (w1 := (SH, dt789)) rfl ?_
                    exact ⟨dt789, rfl, hI790, hF792, (Or.inr ⟨rfl, ⟨by exact RSX_ok hp821 hc820, by first | exact True.intro | with_reducible assumption | exact unhid (by with_reducible assumption) | rfl | fail | trivial, by unfold ARF ATT ABB; exact ⟨by rw [Y813]; omega, Y814.trans (congrArg (VF b n) (by omega)), fun z_ => by (rw [if_pos (by omega)]; exact Y816.trans (congrArg (VF b n) (by omega))), fun z_ => by (rw [if_pos (by omega)]; exact Y817.trans (congrArg (VF b n) (by omega))), fun z_ => by (exfalso; omega), fun z_ => by (exact Y815.trans (congrArg (VF b n) (by omega)))⟩, by exact BL812, by first | exact True.intro | with_reducible assumption | exact unhid (by with_reducible assumption) | rfl | omega | trivial, by exact (InvC_get (by assumption) 79 15 rfl rfl).2, by first | exact True.intro | with_reducible assumption | exact unhid (by with_reducible assumption) | rfl | fail | trivial, by first | exact True.intro | with_reducible assumption | exact unhid (by with_reducible assumption) | rfl | fail | trivial, by first | exact True.intro | with_reducible assumption | exact unhid (by with_reducible assumption) | rfl | fail | trivial, by first | exact True.intro | with_reducible assumption | exact unhid (by with_reducible assumption) | rfl | fail | trivial, by first | exact True.intro | with_reducible assumption | exact unhid (by with_reducible assumption) | rfl | fail | trivial, by first | exact True.intro | with_reducible assumption | exact unhid (by with_reducible assumption) | rfl | fail | trivial⟩⟩)⟩
          · skip
            have r829 : 0 ≤ dt645 79 16 ∧ dt645 79 16 ≤ 9999 := InvC_get hI646 79 16 rfl rfl
            have r830 : 0 ≤ dt645 79 10 ∧ dt645 79 10 ≤ 24 := InvC_get hI646 79 10 rfl rfl
            refine go_toq PM172 (k := 10) (pc' := 109) (L' := [some (.inr (.inr (some 79))), some (.inl 4)]) (st' := [.inl ((5 * (dt645 79 10)) + 1), .inr (.inr (some 82)), .inl (dt645 79 16)]) (w' := (SH, dt645)) rfl ?_
            have r831 : (-2147483648) ≤ dt645 82 (((5 * (dt645 79 10)) + 1).toNat) ∧ dt645 82 (((5 * (dt645 79 10)) + 1).toNat) ≤ 2147483647 := InvC_get hI646 82 (((5 * (dt645 79 10)) + 1).toNat) rfl rfl
            refine go_smpq PM172 (L' := [some (.inr (.inr (some 79))), some (.inl 4)]) (st' := [.inl (dt645 82 (((5 * (dt645 79 10)) + 1).toNat)), .inl (dt645 79 16)]) (w' := (SH, dt645)) rfl rfl (s_iald (n := 120) (f := dt645 82) rfl ⟨by omega, by omega⟩) ?_
            refine go_ifq PM172 (k := 0) (p1 := 119) (p2 := 113) (L' := [some (.inr (.inr (some 79))), some (.inl 4)]) (st' := []) (w' := (SH, dt645)) rfl (c_ne (a := dt645 79 16) (b := dt645 82 (((5 * (dt645 79 10)) + 1).toNat)) (by first | exact bnd r829 (by decide) (by decide) | exact ⟨by fail, by fail⟩) (by first | exact bnd r831 (by decide) (by decide) | exact ⟨by fail, by fail⟩)) (fun c832 => ?_) (fun c832 => ?_)
            · skip
              replace c832 := hid c832
              refine go_toq PM172 (k := 3) (pc' := 122) (L' := [some (.inr (.inr (some 79))), some (.inl 4)]) (st' := [.inl 3, .inl 4, .inr (.inr (some 79))]) (w' := (SH, dt645)) rfl ?_
              have u26_ := hid (And.intro (unhid c6) (And.intro (unhid cr671) (And.intro (unhid cb672) (And.intro (unhid cv673) (And.intro (unhid ck674) (unhid c832))))))
              refine go_callq PM172 PM171 (Q' := _) rfl rfl rfl rfl (sp_X6_argument_g0 L xs sio (d + 0) dt645 hI646 b n t j666 (by first | exact hbb | (rw [show dt645 85 = dt 85 from funext (hF648 85 (by decide)), show dt645 79 12 = dt 79 12 by first | with_reducible assumption | exact unhid (by with_reducible assumption) | fail]; exact hbb)) (by first | with_reducible assumption | exact unhid (by with_reducible assumption) | exact Eq.trans (by with_reducible assumption) hnn | fail) hz ht hc668 hi670 hn5 4 ⟨by decide, by decide⟩ 3 ⟨by decide, by decide⟩ (by first | exact True.intro | with_reducible assumption | exact unhid (by with_reducible assumption) | rfl | omega | trivial) (by first | exact True.intro | with_reducible assumption | exact unhid (by with_reducible assumption) | rfl | omega | trivial)) ?_
              rintro _ _ ⟨dt834, rfl, hI835, hF836, h833⟩
              refine ⟨rfl, ?_⟩
              have hF837 : Fr [79, 82] dt dt834 := Fr_tr hF648 hF836 (by decide)
              rcases h833 with ⟨rfl, h833⟩ | ⟨rfl, h833⟩
              · skip
                obtain ⟨h833_0, h833_1, h833_2, h833_3, h833_4⟩ := h833
                have w838 : dt834 79 2 = dt 79 2 := h833_1.trans w655
                have w839 : dt834 79 9 = dt 79 9 := h833_2.trans w656
                have w840 : dt834 79 10 = dt 79 10 := h833_3.trans w657
                have w841 : dt834 79 12 = dt 79 12 := h833_4.trans w659
                have fl842 := RSX_0 h833_0 rfl
                have fe843 : (gAF (KF 0 b n) (VF b n) (dt 79 10)) i = (gA (KF 0 b n) (VF b n) 3) j666 := hp669.trans ((show (hA0 (KF 0 b n) (VF b n) 4 ((VF b n) (i + 1))) j666 = gB ((gA (KF 0 b n) (VF b n) 3) j666) (hA1 (KF 0 b n) (VF b n) 4) by exact (hA0_p rfl).trans (by unfold gOt; rw [if_neg (by (have z_ := unhid u26_; omega))])).trans (gB_no fl842.1))
                clear h833_1 w655 h833_2 w656 h833_3 h833_4 w659
                refine go_retq PM172 (k := 2) (r := some (.inl 0)) (w1 := (SH, dt834)) rfl ?_
                exact ⟨dt834, rfl, hI835, hF837, (Or.inl ⟨rfl, ⟨by exact RSX_f fe843 fl842 (by first | rfl | with_reducible assumption | exact unhid (by with_reducible assumption) | fail) (by first | rfl | with_reducible assumption | exact unhid (by with_reducible assumption) | fail), by first | exact True.intro | with_reducible assumption | exact unhid (by with_reducible assumption) | rfl | fail | trivial, by first | exact True.intro | with_reducible assumption | exact unhid (by with_reducible assumption) | rfl | fail | trivial, by first | exact True.intro | with_reducible assumption | exact unhid (by with_reducible assumption) | rfl | fail | trivial⟩⟩)⟩
              · skip
                obtain ⟨h833_0, h833_1, h833_2, h833_3, h833_4, h833_5, h833_6, h833_7, h833_8, h833_9, h833_10, h833_11⟩ := h833
                have w844 : dt834 79 2 = dt 79 2 := h833_5.trans w655
                have w845 : dt834 79 9 = dt 79 9 := h833_6.trans w656
                have w846 : dt834 79 10 = dt 79 10 := h833_7.trans w657
                have w847 : dt834 79 11 = dt 79 11 := h833_8.trans w658
                have w848 : dt834 79 12 = dt 79 12 := h833_9.trans w659
                have w849 : dt834 79 17 = dt 79 17 := h833_10.trans w660
                have w850 : dt834 79 20 = dt 79 20 := h833_11.trans w661
                have ee851 : dt645 79 10 = dt 79 10 := by omega
                rw [ee851] at h833_1 h833_2
                have BL852 : ∀ j : Nat, (j : Int) < 5 * dt 79 10 → dt834 82 j = dt 82 j := fun j hj => (h833_2 j (by omega)).trans (BL663 j hj)
                have Y853 := (h833_2 _ (by omega)).trans Y664
                have Y854 := (h833_2 _ (by omega)).trans Y665
                have Y855 := h833_1
                obtain ⟨j856, ej857, hc858⟩ := RSX_1 h833_0 (by decide)
                have hp859 : (gAF (KF 0 b n) (VF b n) (dt 79 10)) i = (hA1 (KF 0 b n) (VF b n) 4) j856 := hp669.trans ((show (hA0 (KF 0 b n) (VF b n) 4 ((VF b n) (i + 1))) j666 = gB ((gA (KF 0 b n) (VF b n) 3) j666) (hA1 (KF 0 b n) (VF b n) 4) by exact (hA0_p rfl).trans (by unfold gOt; rw [if_neg (by (have z_ := unhid u26_; omega))])).trans (by rw [ej857]; exact gB_0))
                have hi860 : j856 ≤ t := by have z := gA_M (K := (KF 0 b n)) (V := (VF b n)) (m := 3) (i := j666) hz; rw [ej857] at z; have y := z rfl; simp only at y; omega
                clear cr671 cb672 cd672 cv673 ck674
                have cr861 := hid (CUR_R hc858 (.inl rfl))
                have cd862 := CUR_d (hc858)
                have cb862 := hid (CUR_b hc858)
                have cv863 := hid (CUR_v hc858)
                have ck864 := hid (KZ_lt (i := j856) hz)
                have c1865 := (hc858).1
                have ci866 := hi860
                have ej867 : j856 = j666 + 1 := by have z_ := gA_at (K := (KF 0 b n)) (V := (VF b n)) (m := 3) (i := j666) (by rw [ej857]); rw [ej857] at z_; exact z_
                clear h833_5 w655 h833_6 w656 h833_7 h833_8 h833_9 w659 h833_10 w660 h833_11 w661
                refine go_toq PM172 (k := 13) (pc' := 148) (L' := [some (.inr (.inr (some 79))), some (.inl 4)]) (st' := [.inl 2, .inl 2, .inr (.inr (some 79))]) (w' := (SH, dt834)) rfl ?_
                refine go_callq PM172 PM171 (Q' := _) rfl rfl rfl rfl (sp_X6_argument_g0 L xs sio (d + 0) dt834 hI835 b n t j856 (by first | exact hbb | (rw [show dt834 85 = dt 85 from funext (hF837 85 (by decide)), show dt834 79 12 = dt 79 12 by first | with_reducible assumption | exact unhid (by with_reducible assumption) | fail]; exact hbb)) (by first | with_reducible assumption | exact unhid (by with_reducible assumption) | exact Eq.trans (by with_reducible assumption) hnn | fail) hz ht hc858 hi860 hn5 2 ⟨by decide, by decide⟩ 2 ⟨by decide, by decide⟩ (by first | exact True.intro | with_reducible assumption | exact unhid (by with_reducible assumption) | rfl | omega | trivial) (by first | exact True.intro | with_reducible assumption | exact unhid (by with_reducible assumption) | rfl | omega | trivial)) ?_
                rintro _ _ ⟨dt869, rfl, hI870, hF871, h868⟩
                refine ⟨rfl, ?_⟩
                have hF872 : Fr [79, 82] dt dt869 := Fr_tr hF837 hF871 (by decide)
                rcases h868 with ⟨rfl, h868⟩ | ⟨rfl, h868⟩
                · skip
                  obtain ⟨h868_0, h868_1, h868_2, h868_3, h868_4⟩ := h868
                  have w873 : dt869 79 2 = dt 79 2 := h868_1.trans w844
                  have w874 : dt869 79 9 = dt 79 9 := h868_2.trans w845
                  have w875 : dt869 79 10 = dt 79 10 := h868_3.trans w846
                  have w876 : dt869 79 12 = dt 79 12 := h868_4.trans w848
                  have fl877 := RSX_0 h868_0 rfl
                  have fe878 : (gAF (KF 0 b n) (VF b n) (dt 79 10)) i = (gA (KF 0 b n) (VF b n) 2) j856 := hp859.trans ((show (hA1 (KF 0 b n) (VF b n) 4) j856 = gB ((gA (KF 0 b n) (VF b n) 2) j856) (hA2 (KF 0 b n) (VF b n) 4) by first | exact hA1_p (by decide) | (rw [hA0_n (by decide)]; exact hA1_p (by decide))).trans (gB_no fl877.1))
                  clear h868_1 w844 h868_2 w845 h868_3 h868_4 w848
                  refine go_retq PM172 (k := 2) (r := some (.inl 0)) (w1 := (SH, dt869)) rfl ?_
                  exact ⟨dt869, rfl, hI870, hF872, (Or.inl ⟨rfl, ⟨by exact RSX_f fe878 fl877 (by first | rfl | with_reducible assumption | exact unhid (by with_reducible assumption) | fail) (by first | rfl | with_reducible assumption | exact unhid (by with_reducible assumption) | fail), by first | exact True.intro | with_reducible assumption | exact unhid (by with_reducible assumption) | rfl | fail | trivial, by first | exact True.intro | with_reducible assumption | exact unhid (by with_reducible assumption) | rfl | fail | trivial, by first | exact True.intro | with_reducible assumption | exact unhid (by with_reducible assumption) | rfl | fail | trivial⟩⟩)⟩
                · skip
                  obtain ⟨h868_0, h868_1, h868_2, h868_3, h868_4, h868_5, h868_6, h868_7, h868_8, h868_9, h868_10, h868_11⟩ := h868
                  have w879 : dt869 79 2 = dt 79 2 := h868_5.trans w844
                  have w880 : dt869 79 9 = dt 79 9 := h868_6.trans w845
                  have w881 : dt869 79 10 = dt 79 10 := h868_7.trans w846
                  have w882 : dt869 79 11 = dt 79 11 := h868_8.trans w847
                  have w883 : dt869 79 12 = dt 79 12 := h868_9.trans w848
                  have w884 : dt869 79 17 = dt 79 17 := h868_10.trans w849
                  have w885 : dt869 79 20 = dt 79 20 := h868_11.trans w850
                  have ee886 : dt834 79 10 = dt 79 10 := by omega
                  rw [ee886] at h868_1 h868_2
                  have BL887 : ∀ j : Nat, (j : Int) < 5 * dt 79 10 → dt869 82 j = dt 82 j := fun j hj => (h868_2 j (by omega)).trans (BL852 j hj)
                  have Y888 := (h868_2 _ (by omega)).trans Y853
                  have Y889 := (h868_2 _ (by omega)).trans Y854
                  have Y890 := (h868_2 _ (by omega)).trans Y855
                  have Y891 := h868_1
                  obtain ⟨j892, ej893, hc894⟩ := RSX_1 h868_0 (by decide)
                  have hp895 : (gAF (KF 0 b n) (VF b n) (dt 79 10)) i = (hA2 (KF 0 b n) (VF b n) 4) j892 := hp859.trans ((show (hA1 (KF 0 b n) (VF b n) 4) j856 = gB ((gA (KF 0 b n) (VF b n) 2) j856) (hA2 (KF 0 b n) (VF b n) 4) by first | exact hA1_p (by decide) | (rw [hA0_n (by decide)]; exact hA1_p (by decide))).trans (by rw [ej893]; exact gB_0))
                  have hi896 : j892 ≤ t := by have z := gA_M (K := (KF 0 b n)) (V := (VF b n)) (m := 2) (i := j856) hz; rw [ej893] at z; have y := z rfl; simp only at y; omega
                  clear cr861 cb862 cd862 cv863 ck864
                  have cr897 := hid (CUR_R hc894 (.inl rfl))
                  have cd898 := CUR_d (hc894)
                  have cb898 := hid (CUR_b hc894)
                  have cv899 := hid (CUR_v hc894)
                  have ck900 := hid (KZ_lt (i := j892) hz)
                  have c1901 := (hc894).1
                  have ci902 := hi896
                  have ej903 : j892 = j856 + 1 := by have z_ := gA_at (K := (KF 0 b n)) (V := (VF b n)) (m := 2) (i := j856) (by rw [ej893]); rw [ej893] at z_; exact z_
                  clear h868_5 w844 h868_6 w845 h868_7 h868_8 h868_9 w848 h868_10 w849 h868_11 w850
                  refine go_toq PM172 (k := 13) (pc' := 179) (L' := [some (.inr (.inr (some 79))), some (.inl 4)]) (st' := [.inl 3, .inl 3, .inr (.inr (some 79))]) (w' := (SH, dt869)) rfl ?_
                  refine go_callq PM172 PM171 (Q' := _) rfl rfl rfl rfl (sp_X6_argument_g0 L xs sio (d + 0) dt869 hI870 b n t j892 (by first | exact hbb | (rw [show dt869 85 = dt 85 from funext (hF872 85 (by decide)), show dt869 79 12 = dt 79 12 by first | with_reducible assumption | exact unhid (by with_reducible assumption) | fail]; exact hbb)) (by first | with_reducible assumption | exact unhid (by with_reducible assumption) | exact Eq.trans (by with_reducible assumption) hnn | fail) hz ht hc894 hi896 hn5 3 ⟨by decide, by decide⟩ 3 ⟨by decide, by decide⟩ (by first | exact True.intro | with_reducible assumption | exact unhid (by with_reducible assumption) | rfl | omega | trivial) (by first | exact True.intro | with_reducible assumption | exact unhid (by with_reducible assumption) | rfl | omega | trivial)) ?_
                  rintro _ _ ⟨dt905, rfl, hI906, hF907, h904⟩
                  refine ⟨rfl, ?_⟩
                  have hF908 : Fr [79, 82] dt dt905 := Fr_tr hF872 hF907 (by decide)
                  rcases h904 with ⟨rfl, h904⟩ | ⟨rfl, h904⟩
                  · skip
                    obtain ⟨h904_0, h904_1, h904_2, h904_3, h904_4⟩ := h904
                    have w909 : dt905 79 2 = dt 79 2 := h904_1.trans w879
                    have w910 : dt905 79 9 = dt 79 9 := h904_2.trans w880
                    have w911 : dt905 79 10 = dt 79 10 := h904_3.trans w881
                    have w912 : dt905 79 12 = dt 79 12 := h904_4.trans w883
                    have fl913 := RSX_0 h904_0 rfl
                    have fe914 : (gAF (KF 0 b n) (VF b n) (dt 79 10)) i = (gA (KF 0 b n) (VF b n) 3) j892 := hp895.trans ((show (hA2 (KF 0 b n) (VF b n) 4) j892 = gB ((gA (KF 0 b n) (VF b n) 3) j892) (hA3 (KF 0 b n) (VF b n) 4) by first | exact hA2_p (by decide) | (rw [hA1_n (by decide)]; exact hA2_p (by decide)) | (rw [hA0_n (by decide), hA1_n (by decide)]; exact hA2_p (by decide))).trans (gB_no fl913.1))
                    clear h904_1 w879 h904_2 w880 h904_3 h904_4 w883
                    refine go_retq PM172 (k := 2) (r := some (.inl 0)) (w1 := (SH, dt905)) rfl ?_
                    exact ⟨dt905, rfl, hI906, hF908, (Or.inl ⟨rfl, ⟨by exact RSX_f fe914 fl913 (by first | rfl | with_reducible assumption | exact unhid (by with_reducible assumption) | fail) (by first | rfl | with_reducible assumption | exact unhid (by with_reducible assumption) | fail), by first | exact True.intro | with_reducible assumption | exact unhid (by with_reducible assumption) | rfl | fail | trivial, by first | exact True.intro | with_reducible assumption | exact unhid (by with_reducible assumption) | rfl | fail | trivial, by first | exact True.intro | with_reducible assumption | exact unhid (by with_reducible assumption) | rfl | fail | trivial⟩⟩)⟩
                  · skip
                    obtain ⟨h904_0, h904_1, h904_2, h904_3, h904_4, h904_5, h904_6, h904_7, h904_8, h904_9, h904_10, h904_11⟩ := h904
                    have w915 : dt905 79 2 = dt 79 2 := h904_5.trans w879
                    have w916 : dt905 79 9 = dt 79 9 := h904_6.trans w880
                    have w917 : dt905 79 10 = dt 79 10 := h904_7.trans w881
                    have w918 : dt905 79 11 = dt 79 11 := h904_8.trans w882
                    have w919 : dt905 79 12 = dt 79 12 := h904_9.trans w883
                    have w920 : dt905 79 17 = dt 79 17 := h904_10.trans w884
                    have w921 : dt905 79 20 = dt 79 20 := h904_11.trans w885
                    have ee922 : dt869 79 10 = dt 79 10 := by omega
                    rw [ee922] at h904_1 h904_2
                    have BL923 : ∀ j : Nat, (j : Int) < 5 * dt 79 10 → dt905 82 j = dt 82 j := fun j hj => (h904_2 j (by omega)).trans (BL887 j hj)
                    have Y924 := (h904_2 _ (by omega)).trans Y888
                    have Y925 := (h904_2 _ (by omega)).trans Y889
                    have Y926 := (h904_2 _ (by omega)).trans Y890
                    have Y927 := (h904_2 _ (by omega)).trans Y891
                    have Y928 := h904_1
                    obtain ⟨j929, ej930, hc931⟩ := RSX_1 h904_0 (by decide)
                    have hp932 : (gAF (KF 0 b n) (VF b n) (dt 79 10)) i = (hA3 (KF 0 b n) (VF b n) 4) j929 := hp895.trans ((show (hA2 (KF 0 b n) (VF b n) 4) j892 = gB ((gA (KF 0 b n) (VF b n) 3) j892) (hA3 (KF 0 b n) (VF b n) 4) by first | exact hA2_p (by decide) | (rw [hA1_n (by decide)]; exact hA2_p (by decide)) | (rw [hA0_n (by decide), hA1_n (by decide)]; exact hA2_p (by decide))).trans (by rw [ej930]; exact gB_0))
                    have hi933 : j929 ≤ t := by have z := gA_M (K := (KF 0 b n)) (V := (VF b n)) (m := 3) (i := j892) hz; rw [ej930] at z; have y := z rfl; simp only at y; omega
                    clear cr897 cb898 cd898 cv899 ck900
                    have cr934 := hid (CUR_R hc931 (.inl rfl))
                    have cd935 := CUR_d (hc931)
                    have cb935 := hid (CUR_b hc931)
                    have cv936 := hid (CUR_v hc931)
                    have ck937 := hid (KZ_lt (i := j929) hz)
                    have c1938 := (hc931).1
                    have ci939 := hi933
                    have ej940 : j929 = j892 + 1 := by have z_ := gA_at (K := (KF 0 b n)) (V := (VF b n)) (m := 3) (i := j892) (by rw [ej930]); rw [ej930] at z_; exact z_
                    clear h904_5 w879 h904_6 w880 h904_7 h904_8 h904_9 w883 h904_10 w884 h904_11 w885
                    refine go_toq PM172 (k := 6) (pc' := 208) (L' := [some (.inr (.inr (some 79))), some (.inl 4)]) (st' := [.inl 159, .inr (.inr (some 79))]) (w' := (SH, dt905)) rfl ?_
                    refine go_callq PM172 PM161 (Q' := _) rfl rfl rfl rfl (sp_X6_need0_g0 L xs sio (d + 1) dt905 hI906 b n t j929 (by first | exact hbb | (rw [show dt905 85 = dt 85 from funext (hF908 85 (by decide)), show dt905 79 12 = dt 79 12 by first | with_reducible assumption | exact unhid (by with_reducible assumption) | fail]; exact hbb)) (by first | with_reducible assumption | exact unhid (by with_reducible assumption) | exact Eq.trans (by with_reducible assumption) hnn | fail) hz ht hc931 hi933 hn5 159 ⟨by decide, by decide⟩ (by first | exact True.intro | with_reducible assumption | exact unhid (by with_reducible assumption) | rfl | omega | trivial)) ?_
                    rintro _ _ ⟨dt942, rfl, hI943, hF944, h941⟩
                    refine ⟨rfl, ?_⟩
                    have hF945 : Fr [79, 82] dt dt942 := Fr_tr hF908 hF944 (by decide)
                    rcases h941 with ⟨rfl, h941⟩ | ⟨rfl, h941⟩
                    · skip
                      obtain ⟨h941_0, h941_1, h941_2, h941_3, h941_4⟩ := h941
                      have w946 : dt942 79 2 = dt 79 2 := h941_1.trans w915
                      have w947 : dt942 79 9 = dt 79 9 := h941_2.trans w916
                      have w948 : dt942 79 10 = dt 79 10 := h941_3.trans w917
                      have w949 : dt942 79 12 = dt 79 12 := h941_4.trans w919
                      have BL950 : ∀ j : Nat, (j : Int) < 5 * dt 79 10 → dt942 82 j = dt 82 j := fun j hj => (hF944 82 (by decide) j).trans (BL923 j hj)
                      have Y951 := (hF944 82 (by decide) _).trans Y924
                      have Y952 := (hF944 82 (by decide) _).trans Y925
                      have Y953 := (hF944 82 (by decide) _).trans Y926
                      have Y954 := (hF944 82 (by decide) _).trans Y927
                      have Y955 := (hF944 82 (by decide) _).trans Y928
                      have fl956 := RSX_0 h941_0 rfl
                      have fe957 : (gAF (KF 0 b n) (VF b n) (dt 79 10)) i = (gK (KF 0 b n) (159 - 100)) j929 := hp932.trans ((show (hA3 (KF 0 b n) (VF b n) 4) j929 = gB ((gK (KF 0 b n) (159 - 100)) j929) gOk by first | exact gB_id.symm | ((repeat (first | rw [hA0_n (by decide)] | rw [hA1_n (by decide)] | rw [hA2_n (by decide)] | rw [hA3_n (by decide)])); exact gB_id.symm)).trans (gB_no fl956.1))
                      clear h941_1 w915 h941_2 w916 h941_3 h941_4 w919
                      refine go_retq PM172 (k := 0) (r := some (.inl 0)) (w1 := (SH, dt942)) rfl ?_
                      exact ⟨dt942, rfl, hI943, hF945, (Or.inl ⟨rfl, ⟨by exact RSX_f fe957 fl956 (by first | rfl | with_reducible assumption | exact unhid (by with_reducible assumption) | fail) (by first | rfl | with_reducible assumption | exact unhid (by with_reducible assumption) | fail), by first | exact True.intro | with_reducible assumption | exact unhid (by with_reducible assumption) | rfl | fail | trivial, by first | exact True.intro | with_reducible assumption | exact unhid (by with_reducible assumption) | rfl | fail | trivial, by first | exact True.intro | with_reducible assumption | exact unhid (by with_reducible assumption) | rfl | fail | trivial⟩⟩)⟩
                    · skip
                      obtain ⟨h941_0, h941_1, h941_2, h941_3, h941_4, h941_5, h941_6, h941_7, h941_8, h941_9⟩ := h941
                      have w958 : dt942 79 2 = dt 79 2 := h941_3.trans w915
                      have w959 : dt942 79 9 = dt 79 9 := h941_4.trans w916
                      have w960 : dt942 79 10 = dt 79 10 := h941_5.trans w917
                      have w961 : dt942 79 11 = dt 79 11 := h941_6.trans w918
                      have w962 : dt942 79 12 = dt 79 12 := h941_7.trans w919
                      have w963 : dt942 79 17 = dt 79 17 := h941_8.trans w920
                      have w964 : dt942 79 20 = dt 79 20 := h941_9.trans w921
                      have BL965 : ∀ j : Nat, (j : Int) < 5 * dt 79 10 → dt942 82 j = dt 82 j := fun j hj => (hF944 82 (by decide) j).trans (BL923 j hj)
                      have Y966 := (hF944 82 (by decide) _).trans Y924
                      have Y967 := (hF944 82 (by decide) _).trans Y925
                      have Y968 := (hF944 82 (by decide) _).trans Y926
                      have Y969 := (hF944 82 (by decide) _).trans Y927
                      have Y970 := (hF944 82 (by decide) _).trans Y928
                      obtain ⟨j971, ej972, hc973⟩ := RSX_1 h941_0 (by decide)
                      have hp974 : (gAF (KF 0 b n) (VF b n) (dt 79 10)) i = gOk j971 := hp932.trans ((show (hA3 (KF 0 b n) (VF b n) 4) j929 = gB ((gK (KF 0 b n) (159 - 100)) j929) gOk by first | exact gB_id.symm | ((repeat (first | rw [hA0_n (by decide)] | rw [hA1_n (by decide)] | rw [hA2_n (by decide)] | rw [hA3_n (by decide)])); exact gB_id.symm)).trans (by rw [ej972]; exact gB_0))
                      have hi975 : j971 ≤ t := by have z := (fun (h : KZ (KF 0 b n) t) => gK_M (K := (KF 0 b n)) (k := 159 - 100) (i := j929) h (by decide)) hz; rw [ej972] at z; have y := z rfl; simp only at y; omega
                      clear cr934 cb935 cd935 cv936 ck937
                      have cr976 := hid (CUR_R hc973 (.inl rfl))
                      have cd977 := CUR_d (hc973)
                      have cb977 := hid (CUR_b hc973)
                      have cv978 := hid (CUR_v hc973)
                      have ck979 := hid (KZ_lt (i := j971) hz)
                      have c1980 := (hc973).1
                      have ci981 := hi975
                      clear h941_3 w915 h941_4 w916 h941_5 h941_6 h941_7 w919 h941_8 w920 h941_9 w921
                      refine go_retq PM172 (k := 0) (r := some (.inl 1)) (w1 := (SH, dt942)) rfl ?_
                      exact ⟨dt942, rfl, hI943, hF945, (Or.inr ⟨rfl, ⟨by exact RSX_ok hp974 hc973, by first | exact True.intro | with_reducible assumption | exact unhid (by with_reducible assumption) | rfl | fail | trivial, by unfold ARF ATT ABB; exact ⟨by rw [Y966]; omega, Y967.trans (congrArg (VF b n) (by omega)), fun z_ => by (rw [if_pos (by omega)]; exact Y969.trans (congrArg (VF b n) (by omega))), fun z_ => by (rw [if_pos (by omega)]; exact Y970.trans (congrArg (VF b n) (by omega))), fun z_ => by (exfalso; omega), fun z_ => by (exact Y968.trans (congrArg (VF b n) (by omega)))⟩, by exact BL965, by first | exact True.intro | with_reducible assumption | exact unhid (by with_reducible assumption) | rfl | omega | trivial, by exact (InvC_get (by assumption) 79 15 rfl rfl).2, by first | exact True.intro | with_reducible assumption | exact unhid (by with_reducible assumption) | rfl | fail | trivial, by first | exact True.intro | with_reducible assumption | exact unhid (by with_reducible assumption) | rfl | fail | trivial, by first | exact True.intro | with_reducible assumption | exact unhid (by with_reducible assumption) | rfl | fail | trivial, by first | exact True.intro | with_reducible assumption | exact unhid (by with_reducible assumption) | rfl | fail | trivial, by first | exact True.intro | with_reducible assumption | exact unhid (by with_reducible assumption) | rfl | fail | trivial, by first | exact True.intro | with_reducible assumption | exact unhid (by with_reducible assumption) | rfl | fail | trivial⟩⟩)⟩
            · skip
              refine go_toq PM172 (k := 2) (pc' := 115) (L' := [some (.inr (.inr (some 79))), some (.inl 4)]) (st' := [.inl 2, .inr (.inr (some 79))]) (w' := (SH, dt645)) rfl ?_
              refine go_callq PM172 PM160 (Q' := _) rfl rfl rfl rfl (sp_X6_bad_g L xs sio (d + 8) dt645 hI646  2 ⟨by decide, by decide⟩ ) ?_
              rintro _ _ ⟨dt983, rfl, hI984, hF985, h982⟩
              refine ⟨rfl, ?_⟩
              have hF986 : Fr [79, 82] dt dt983 := Fr_tr hF648 hF985 (by decide)
              rcases h982 with ⟨rfl, h982⟩
              obtain ⟨h982_0, h982_1, h982_2, h982_3, h982_4, h982_5, h982_6, h982_7, h982_8, h982_9, h982_10, h982_11⟩ := h982
              have w987 : dt983 79 2 = dt 79 2 := h982_2.trans w655
              have w988 : dt983 79 9 = dt 79 9 := h982_3.trans w656
              have w989 : dt983 79 10 = dt 79 10 := h982_4.trans w657
              have w990 : dt983 79 11 = dt 79 11 := h982_5.trans w658
              have w991 : dt983 79 12 = dt 79 12 := h982_6.trans w659
              have w992 : dt983 79 13 = dt645 79 13 := h982_7
              have w993 : dt983 79 14 = dt645 79 14 := h982_8
              have w994 : dt983 79 15 = dt645 79 15 := h982_9
              have w995 : dt983 79 16 = dt645 79 16 := h982_10
              have w996 : dt983 79 20 = dt 79 20 := h982_11.trans w661
              have BL997 : ∀ j : Nat, (j : Int) < 5 * dt 79 10 → dt983 82 j = dt 82 j := fun j hj => (hF985 82 (by decide) j).trans (BL663 j hj)
              have Y998 := (hF985 82 (by decide) _).trans Y664
              have Y999 := (hF985 82 (by decide) _).trans Y665
              have hc1000 : CUR 0 b n dt983 j666 := CUR_sm hc668 (by first | with_reducible assumption | exact unhid (by with_reducible assumption) | rfl | fail) (by first | with_reducible assumption | exact unhid (by with_reducible assumption) | rfl | fail) (by first | with_reducible assumption | exact unhid (by with_reducible assumption) | rfl | fail) (by first | with_reducible assumption | exact unhid (by with_reducible assumption) | rfl | fail)
              clear h982_2 w655 h982_3 w656 h982_4 h982_5 h982_6 w659 h982_7 h982_8 h982_9 h982_10 h982_11 w661
              refine go_retq PM172 (k := 0) (r := some (.inl 0)) (w1 := (SH, dt983)) rfl ?_
              exact ⟨dt983, rfl, hI984, hF986, (Or.inl ⟨rfl, ⟨by exact RSX_no (k := 2) (j := j666) (hp669.trans (by exact (hA0_p rfl).trans (by unfold gOt; rw [if_pos (by (have z_ := unhid u20_; omega))]; rfl))) (by decide) (by omega) (by show _ = ((TP b n j666 : Nat) : Int); omega), by first | exact True.intro | with_reducible assumption | exact unhid (by with_reducible assumption) | rfl | fail | trivial, by first | exact True.intro | with_reducible assumption | exact unhid (by with_reducible assumption) | rfl | fail | trivial, by first | exact True.intro | with_reducible assumption | exact unhid (by with_reducible assumption) | rfl | fail | trivial⟩⟩)⟩
      · rw [hc7]
        refine go_toq PM172 (k := 1) (pc' := 44) (L' := [some (.inr (.inr (some 79))), some (.inl 5)]) (st' := [.inr (.inr (some 79))]) (w' := (SH, dt)) rfl ?_
        refine go_callq PM172 PM159 (Q' := _) rfl rfl rfl rfl (sp_X6_next0_p0 L xs sio (d + 2) dt hI   (by first | exact True.intro | with_reducible assumption | exact unhid (by with_reducible assumption) | rfl | omega | trivial) (by first | exact True.intro | with_reducible assumption | exact unhid (by with_reducible assumption) | rfl | fail | trivial)) ?_
        rintro _ _ ⟨dt1002, rfl, hI1003, hF1004, h1001⟩
        refine ⟨rfl, ?_⟩
        have hF1005 : Fr [79, 82] dt dt1002 := Fr_tr hF hF1004 (by decide)
        rcases h1001 with ⟨rfl, h1001⟩
        obtain ⟨h1001_0, h1001_1, h1001_2, h1001_3, h1001_4, h1001_5, h1001_6, h1001_7, h1001_8⟩ := h1001
        have w1006 : dt1002 79 2 = dt 79 2 := h1001_2
        have w1007 : dt1002 79 9 = dt 79 9 := h1001_3
        have w1008 : dt1002 79 10 = dt 79 10 := h1001_4
        have w1009 : dt1002 79 11 = dt 79 11 := h1001_5
        have w1010 : dt1002 79 12 = dt 79 12 := h1001_6
        have w1011 : dt1002 79 17 = dt 79 17 := h1001_7
        have w1012 : dt1002 79 20 = dt 79 20 := h1001_8
        have BL1013 : ∀ j : Nat, (j : Int) < 5 * dt 79 10 → dt1002 82 j = dt 82 j := fun j hj => (hF1004 82 (by decide) j).trans ((fun _ _ => rfl) j hj)
        have hq1014 := h1001_0
        rw [hbb, show (dt 79 12).toNat = n from (congrArg Int.toNat hnn).trans (Int.toNat_natCast n)] at hq1014
        have hc1015 : CUR 0 b n dt1002 (i + 1) := CUR_n hc hq1014
        have hi1016 : i + 1 ≤ t := by (have z_ := unhid u2_; omega)
        have av1017 : dt 79 15 + 1 ≤ dt 79 13 := by (have z_ := unhid u2_; omega)
        have kk_ : KF 0 b n i = 1005 := by (have z_ := unhid u2_; omega)
        have hp1018 : (gAF (KF 0 b n) (VF b n) (dt 79 10)) i = (gAct (KF 0 b n) (VF b n) 5) (i + 1) := (rfl : (gAF (KF 0 b n) (VF b n) (dt 79 10)) i = (gAF (KF 0 b n) (VF b n) (dt 79 10)) i).trans (by show gAF _ _ _ _ = _; unfold gAF; rw [if_neg (by (have z_ := unhid u2_; omega)), if_neg (by (have z_ := unhid u2_; omega)), show (KF 0 b n) i - 1000 = 5 by first | with_reducible assumption | exact unhid (by with_reducible assumption) | (have z_ := unhid u2_; omega)])
        clear cr0 cb0 cd0 cv0 ck0
        have cr1019 := hid (CUR_R hc1015 (.inl rfl))
        have cd1020 := CUR_d (hc1015)
        have cb1020 := hid (CUR_b hc1015)
        have cv1021 := hid (CUR_v hc1015)
        have ck1022 := hid (KZ_lt (i := (i + 1)) hz)
        have c11023 := (hc1015).1
        have ci1024 := hi1016
        clear h1001_2 h1001_3 h1001_4 h1001_5 h1001_6 h1001_7 h1001_8
        have r1025 : 0 ≤ dt1002 79 10 ∧ dt1002 79 10 ≤ 24 := InvC_get hI1003 79 10 rfl rfl
        refine go_toq PM172 (k := 7) (pc' := 58) (L' := [some (.inr (.inr (some 79))), some (.inl 5)]) (st' := [.inl 5, .inl (5 * (dt1002 79 10)), .inr (.inr (some 82))]) (w' := (SH, dt1002)) rfl ?_
        have hI1026 : InvC (u2 dt1002 82 ((5 * (dt1002 79 10)).toNat) 5) := InvC_u2 hI1003 (lo := -2147483648) (hi := 2147483647) rfl rfl rfl (by decide) (by decide)
        have hF1027 : Fr [79, 82] dt (u2 dt1002 82 ((5 * (dt1002 79 10)).toNat) 5) := Fr_u2 hF1005 (by decide)
        have w1028 : (u2 dt1002 82 ((5 * (dt1002 79 10)).toNat) 5) 79 2 = dt 79 2 := w1006
        have w1029 : (u2 dt1002 82 ((5 * (dt1002 79 10)).toNat) 5) 79 9 = dt 79 9 := w1007
        have w1030 : (u2 dt1002 82 ((5 * (dt1002 79 10)).toNat) 5) 79 10 = dt 79 10 := w1008
        have w1031 : (u2 dt1002 82 ((5 * (dt1002 79 10)).toNat) 5) 79 11 = dt 79 11 := w1009
        have w1032 : (u2 dt1002 82 ((5 * (dt1002 79 10)).toNat) 5) 79 12 = dt 79 12 := w1010
        have w1033 : (u2 dt1002 82 ((5 * (dt1002 79 10)).toNat) 5) 79 13 = dt1002 79 13 := rfl
        have w1034 : (u2 dt1002 82 ((5 * (dt1002 79 10)).toNat) 5) 79 14 = dt1002 79 14 := rfl
        have w1035 : (u2 dt1002 82 ((5 * (dt1002 79 10)).toNat) 5) 79 15 = dt1002 79 15 := rfl
        have w1036 : (u2 dt1002 82 ((5 * (dt1002 79 10)).toNat) 5) 79 16 = dt1002 79 16 := rfl
        have w1037 : (u2 dt1002 82 ((5 * (dt1002 79 10)).toNat) 5) 79 17 = dt 79 17 := w1011
        have w1038 : (u2 dt1002 82 ((5 * (dt1002 79 10)).toNat) 5) 79 18 = dt1002 79 18 := rfl
        have w1039 : (u2 dt1002 82 ((5 * (dt1002 79 10)).toNat) 5) 79 20 = dt 79 20 := w1012
        have BL1040 : ∀ j : Nat, (j : Int) < 5 * dt 79 10 → (u2 dt1002 82 ((5 * (dt1002 79 10)).toNat) 5) 82 j = dt 82 j := fun j hj => (u2_ne (by omega)).trans (BL1013 j hj)
        have Y1041 : (u2 dt1002 82 ((5 * (dt1002 79 10)).toNat) 5) 82 (5 * (dt 79 10)).toNat = 5 := by rw [show (5 * (dt 79 10)).toNat = (5 * (dt1002 79 10)).toNat by first | with_reducible assumption | exact unhid (by with_reducible assumption) | omega]; exact u2_eq
        have hc1042 : CUR 0 b n (u2 dt1002 82 ((5 * (dt1002 79 10)).toNat) 5) (i + 1) := CUR_sm hc1015 rfl rfl rfl rfl
        refine go_smpq PM172 (L' := [some (.inr (.inr (some 79))), some (.inl 5)]) (st' := []) (w' := (SH, (u2 dt1002 82 ((5 * (dt1002 79 10)).toNat) 5))) rfl rfl (s_iast (n := 120) rfl ⟨by omega, by omega⟩ ⟨by decide, by decide⟩) ?_
        refine go_toq PM172 (k := 6) (pc' := 72) (L' := [some (.inr (.inr (some 79))), some (.inl 5)]) (st' := [.inl 3, .inl 1, .inr (.inr (some 79))]) (w' := (SH, (u2 dt1002 82 ((5 * (dt1002 79 10)).toNat) 5))) rfl ?_
        refine go_callq PM172 PM171 (Q' := _) rfl rfl rfl rfl (sp_X6_argument_g0 L xs sio (d + 0) (u2 dt1002 82 ((5 * (dt1002 79 10)).toNat) 5) hI1026 b n t (i + 1) (by first | exact hbb | (rw [show (u2 dt1002 82 ((5 * (dt1002 79 10)).toNat) 5) 85 = dt 85 from funext (hF1027 85 (by decide)), show (u2 dt1002 82 ((5 * (dt1002 79 10)).toNat) 5) 79 12 = dt 79 12 by first | with_reducible assumption | exact unhid (by with_reducible assumption) | fail]; exact hbb)) (by first | with_reducible assumption | exact unhid (by with_reducible assumption) | exact Eq.trans (by with_reducible assumption) hnn | fail) hz ht hc1042 hi1016 hn5 1 ⟨by decide, by decide⟩ 3 ⟨by decide, by decide⟩ (by first | exact True.intro | with_reducible assumption | exact unhid (by with_reducible assumption) | rfl | omega | trivial) (by first | exact True.intro | with_reducible assumption | exact unhid (by with_reducible assumption) | rfl | omega | trivial)) ?_
        rintro _ _ ⟨dt1044, rfl, hI1045, hF1046, h1043⟩
        refine ⟨rfl, ?_⟩
        have hF1047 : Fr [79, 82] dt dt1044 := Fr_tr hF1027 hF1046 (by decide)
        rcases h1043 with ⟨rfl, h1043⟩ | ⟨rfl, h1043⟩
        · skip
          obtain ⟨h1043_0, h1043_1, h1043_2, h1043_3, h1043_4⟩ := h1043
          have w1048 : dt1044 79 2 = dt 79 2 := h1043_1.trans w1028
          have w1049 : dt1044 79 9 = dt 79 9 := h1043_2.trans w1029
          have w1050 : dt1044 79 10 = dt 79 10 := h1043_3.trans w1030
          have w1051 : dt1044 79 12 = dt 79 12 := h1043_4.trans w1032
          have fl1052 := RSX_0 h1043_0 rfl
          have fe1053 : (gAF (KF 0 b n) (VF b n) (dt 79 10)) i = (gA (KF 0 b n) (VF b n) 3) (i + 1) := hp1018.trans ((show (gAct (KF 0 b n) (VF b n) 5) (i + 1) = gB ((gA (KF 0 b n) (VF b n) 3) (i + 1)) (hA0 (KF 0 b n) (VF b n) 5 ((VF b n) (i + 1))) by exact hAc_n (by decide)).trans (gB_no fl1052.1))
          clear h1043_1 w1028 h1043_2 w1029 h1043_3 w1030 h1043_4 w1032
          refine go_retq PM172 (k := 2) (r := some (.inl 0)) (w1 := (SH, dt1044)) rfl ?_
          exact ⟨dt1044, rfl, hI1045, hF1047, (Or.inl ⟨rfl, ⟨by exact RSX_f fe1053 fl1052 (by first | rfl | with_reducible assumption | exact unhid (by with_reducible assumption) | fail) (by first | rfl | with_reducible assumption | exact unhid (by with_reducible assumption) | fail), by first | exact True.intro | with_reducible assumption | exact unhid (by with_reducible assumption) | rfl | fail | trivial, by first | exact True.intro | with_reducible assumption | exact unhid (by with_reducible assumption) | rfl | fail | trivial, by first | exact True.intro | with_reducible assumption | exact unhid (by with_reducible assumption) | rfl | fail | trivial⟩⟩)⟩
        · skip
          obtain ⟨h1043_0, h1043_1, h1043_2, h1043_3, h1043_4, h1043_5, h1043_6, h1043_7, h1043_8, h1043_9, h1043_10, h1043_11⟩ := h1043
          have w1054 : dt1044 79 2 = dt 79 2 := h1043_5.trans w1028
          have w1055 : dt1044 79 9 = dt 79 9 := h1043_6.trans w1029
          have w1056 : dt1044 79 10 = dt 79 10 := h1043_7.trans w1030
          have w1057 : dt1044 79 11 = dt 79 11 := h1043_8.trans w1031
          have w1058 : dt1044 79 12 = dt 79 12 := h1043_9.trans w1032
          have w1059 : dt1044 79 17 = dt 79 17 := h1043_10.trans w1037
          have w1060 : dt1044 79 20 = dt 79 20 := h1043_11.trans w1039
          have ee1061 : (u2 dt1002 82 ((5 * (dt1002 79 10)).toNat) 5) 79 10 = dt 79 10 := by omega
          rw [ee1061] at h1043_1 h1043_2
          have BL1062 : ∀ j : Nat, (j : Int) < 5 * dt 79 10 → dt1044 82 j = dt 82 j := fun j hj => (h1043_2 j (by omega)).trans (BL1040 j hj)
          have Y1063 := (h1043_2 _ (by omega)).trans Y1041
          have Y1064 := h1043_1
          obtain ⟨j1065, ej1066, hc1067⟩ := RSX_1 h1043_0 (by decide)
          have hp1068 : (gAF (KF 0 b n) (VF b n) (dt 79 10)) i = (hA0 (KF 0 b n) (VF b n) 5 ((VF b n) (i + 1))) j1065 := hp1018.trans ((show (gAct (KF 0 b n) (VF b n) 5) (i + 1) = gB ((gA (KF 0 b n) (VF b n) 3) (i + 1)) (hA0 (KF 0 b n) (VF b n) 5 ((VF b n) (i + 1))) by exact hAc_n (by decide)).trans (by rw [ej1066]; exact gB_0))
          have hi1069 : j1065 ≤ t := by have z := gA_M (K := (KF 0 b n)) (V := (VF b n)) (m := 3) (i := (i + 1)) hz; rw [ej1066] at z; have y := z rfl; simp only at y; omega
          clear cr1019 cb1020 cd1020 cv1021 ck1022
          have cr1070 := hid (CUR_R hc1067 (.inl rfl))
          have cd1071 := CUR_d (hc1067)
          have cb1071 := hid (CUR_b hc1067)
          have cv1072 := hid (CUR_v hc1067)
          have ck1073 := hid (KZ_lt (i := j1065) hz)
          have c11074 := (hc1067).1
          have ci1075 := hi1069
          have ej1076 : j1065 = (i + 1) + 1 := by have z_ := gA_at (K := (KF 0 b n)) (V := (VF b n)) (m := 3) (i := (i + 1)) (by rw [ej1066]); rw [ej1066] at z_; exact z_
          clear h1043_5 w1028 h1043_6 w1029 h1043_7 w1030 h1043_8 w1031 h1043_9 w1032 h1043_10 w1037 h1043_11 w1039
          refine go_toq PM172 (k := 28) (pc' := 179) (L' := [some (.inr (.inr (some 79))), some (.inl 5)]) (st' := [.inl 3, .inl 3, .inr (.inr (some 79))]) (w' := (SH, dt1044)) rfl ?_
          refine go_callq PM172 PM171 (Q' := _) rfl rfl rfl rfl (sp_X6_argument_g0 L xs sio (d + 0) dt1044 hI1045 b n t j1065 (by first | exact hbb | (rw [show dt1044 85 = dt 85 from funext (hF1047 85 (by decide)), show dt1044 79 12 = dt 79 12 by first | with_reducible assumption | exact unhid (by with_reducible assumption) | fail]; exact hbb)) (by first | with_reducible assumption | exact unhid (by with_reducible assumption) | exact Eq.trans (by with_reducible assumption) hnn | fail) hz ht hc1067 hi1069 hn5 3 ⟨by decide, by decide⟩ 3 ⟨by decide, by decide⟩ (by first | exact True.intro | with_reducible assumption | exact unhid (by with_reducible assumption) | rfl | omega | trivial) (by first | exact True.intro | with_reducible assumption | exact unhid (by with_reducible assumption) | rfl | omega | trivial)) ?_
          rintro _ _ ⟨dt1078, rfl, hI1079, hF1080, h1077⟩
          refine ⟨rfl, ?_⟩
          have hF1081 : Fr [79, 82] dt dt1078 := Fr_tr hF1047 hF1080 (by decide)
          rcases h1077 with ⟨rfl, h1077⟩ | ⟨rfl, h1077⟩
          · skip
            obtain ⟨h1077_0, h1077_1, h1077_2, h1077_3, h1077_4⟩ := h1077
            have w1082 : dt1078 79 2 = dt 79 2 := h1077_1.trans w1054
            have w1083 : dt1078 79 9 = dt 79 9 := h1077_2.trans w1055
            have w1084 : dt1078 79 10 = dt 79 10 := h1077_3.trans w1056
            have w1085 : dt1078 79 12 = dt 79 12 := h1077_4.trans w1058
            have fl1086 := RSX_0 h1077_0 rfl
            have fe1087 : (gAF (KF 0 b n) (VF b n) (dt 79 10)) i = (gA (KF 0 b n) (VF b n) 3) j1065 := hp1068.trans ((show (hA0 (KF 0 b n) (VF b n) 5 ((VF b n) (i + 1))) j1065 = gB ((gA (KF 0 b n) (VF b n) 3) j1065) (hA3 (KF 0 b n) (VF b n) 5) by first | exact hA2_p (by decide) | (rw [hA1_n (by decide)]; exact hA2_p (by decide)) | (rw [hA0_n (by decide), hA1_n (by decide)]; exact hA2_p (by decide))).trans (gB_no fl1086.1))
            clear h1077_1 w1054 h1077_2 w1055 h1077_3 h1077_4 w1058
            refine go_retq PM172 (k := 2) (r := some (.inl 0)) (w1 := (SH, dt1078)) rfl ?_
            exact ⟨dt1078, rfl, hI1079, hF1081, (Or.inl ⟨rfl, ⟨by exact RSX_f fe1087 fl1086 (by first | rfl | with_reducible assumption | exact unhid (by with_reducible assumption) | fail) (by first | rfl | with_reducible assumption | exact unhid (by with_reducible assumption) | fail), by first | exact True.intro | with_reducible assumption | exact unhid (by with_reducible assumption) | rfl | fail | trivial, by first | exact True.intro | with_reducible assumption | exact unhid (by with_reducible assumption) | rfl | fail | trivial, by first | exact True.intro | with_reducible assumption | exact unhid (by with_reducible assumption) | rfl | fail | trivial⟩⟩)⟩
          · skip
            obtain ⟨h1077_0, h1077_1, h1077_2, h1077_3, h1077_4, h1077_5, h1077_6, h1077_7, h1077_8, h1077_9, h1077_10, h1077_11⟩ := h1077
            have w1088 : dt1078 79 2 = dt 79 2 := h1077_5.trans w1054
            have w1089 : dt1078 79 9 = dt 79 9 := h1077_6.trans w1055
            have w1090 : dt1078 79 10 = dt 79 10 := h1077_7.trans w1056
            have w1091 : dt1078 79 11 = dt 79 11 := h1077_8.trans w1057
            have w1092 : dt1078 79 12 = dt 79 12 := h1077_9.trans w1058
            have w1093 : dt1078 79 17 = dt 79 17 := h1077_10.trans w1059
            have w1094 : dt1078 79 20 = dt 79 20 := h1077_11.trans w1060
            have ee1095 : dt1044 79 10 = dt 79 10 := by omega
            rw [ee1095] at h1077_1 h1077_2
            have BL1096 : ∀ j : Nat, (j : Int) < 5 * dt 79 10 → dt1078 82 j = dt 82 j := fun j hj => (h1077_2 j (by omega)).trans (BL1062 j hj)
            have Y1097 := (h1077_2 _ (by omega)).trans Y1063
            have Y1098 := (h1077_2 _ (by omega)).trans Y1064
            have Y1099 := h1077_1
            obtain ⟨j1100, ej1101, hc1102⟩ := RSX_1 h1077_0 (by decide)
            have hp1103 : (gAF (KF 0 b n) (VF b n) (dt 79 10)) i = (hA3 (KF 0 b n) (VF b n) 5) j1100 := hp1068.trans ((show (hA0 (KF 0 b n) (VF b n) 5 ((VF b n) (i + 1))) j1065 = gB ((gA (KF 0 b n) (VF b n) 3) j1065) (hA3 (KF 0 b n) (VF b n) 5) by first | exact hA2_p (by decide) | (rw [hA1_n (by decide)]; exact hA2_p (by decide)) | (rw [hA0_n (by decide), hA1_n (by decide)]; exact hA2_p (by decide))).trans (by rw [ej1101]; exact gB_0))
            have hi1104 : j1100 ≤ t := by have z := gA_M (K := (KF 0 b n)) (V := (VF b n)) (m := 3) (i := j1065) hz; rw [ej1101] at z; have y := z rfl; simp only at y; omega
            clear cr1070 cb1071 cd1071 cv1072 ck1073
            have cr1105 := hid (CUR_R hc1102 (.inl rfl))
            have cd1106 := CUR_d (hc1102)
            have cb1106 := hid (CUR_b hc1102)
            have cv1107 := hid (CUR_v hc1102)
            have ck1108 := hid (KZ_lt (i := j1100) hz)
            have c11109 := (hc1102).1
            have ci1110 := hi1104
            have ej1111 : j1100 = j1065 + 1 := by have z_ := gA_at (K := (KF 0 b n)) (V := (VF b n)) (m := 3) (i := j1065) (by rw [ej1101]); rw [ej1101] at z_; exact z_
            clear h1077_5 w1054 h1077_6 w1055 h1077_7 h1077_8 h1077_9 w1058 h1077_10 w1059 h1077_11 w1060
            refine go_toq PM172 (k := 6) (pc' := 208) (L' := [some (.inr (.inr (some 79))), some (.inl 5)]) (st' := [.inl 159, .inr (.inr (some 79))]) (w' := (SH, dt1078)) rfl ?_
            refine go_callq PM172 PM161 (Q' := _) rfl rfl rfl rfl (sp_X6_need0_g0 L xs sio (d + 1) dt1078 hI1079 b n t j1100 (by first | exact hbb | (rw [show dt1078 85 = dt 85 from funext (hF1081 85 (by decide)), show dt1078 79 12 = dt 79 12 by first | with_reducible assumption | exact unhid (by with_reducible assumption) | fail]; exact hbb)) (by first | with_reducible assumption | exact unhid (by with_reducible assumption) | exact Eq.trans (by with_reducible assumption) hnn | fail) hz ht hc1102 hi1104 hn5 159 ⟨by decide, by decide⟩ (by first | exact True.intro | with_reducible assumption | exact unhid (by with_reducible assumption) | rfl | omega | trivial)) ?_
            rintro _ _ ⟨dt1113, rfl, hI1114, hF1115, h1112⟩
            refine ⟨rfl, ?_⟩
            have hF1116 : Fr [79, 82] dt dt1113 := Fr_tr hF1081 hF1115 (by decide)
            rcases h1112 with ⟨rfl, h1112⟩ | ⟨rfl, h1112⟩
            · skip
              obtain ⟨h1112_0, h1112_1, h1112_2, h1112_3, h1112_4⟩ := h1112
              have w1117 : dt1113 79 2 = dt 79 2 := h1112_1.trans w1088
              have w1118 : dt1113 79 9 = dt 79 9 := h1112_2.trans w1089
              have w1119 : dt1113 79 10 = dt 79 10 := h1112_3.trans w1090
              have w1120 : dt1113 79 12 = dt 79 12 := h1112_4.trans w1092
              have BL1121 : ∀ j : Nat, (j : Int) < 5 * dt 79 10 → dt1113 82 j = dt 82 j := fun j hj => (hF1115 82 (by decide) j).trans (BL1096 j hj)
              have Y1122 := (hF1115 82 (by decide) _).trans Y1097
              have Y1123 := (hF1115 82 (by decide) _).trans Y1098
              have Y1124 := (hF1115 82 (by decide) _).trans Y1099
              have fl1125 := RSX_0 h1112_0 rfl
              have fe1126 : (gAF (KF 0 b n) (VF b n) (dt 79 10)) i = (gK (KF 0 b n) (159 - 100)) j1100 := hp1103.trans ((show (hA3 (KF 0 b n) (VF b n) 5) j1100 = gB ((gK (KF 0 b n) (159 - 100)) j1100) gOk by first | exact gB_id.symm | ((repeat (first | rw [hA0_n (by decide)] | rw [hA1_n (by decide)] | rw [hA2_n (by decide)] | rw [hA3_n (by decide)])); exact gB_id.symm)).trans (gB_no fl1125.1))
              clear h1112_1 w1088 h1112_2 w1089 h1112_3 h1112_4 w1092
              refine go_retq PM172 (k := 0) (r := some (.inl 0)) (w1 := (SH, dt1113)) rfl ?_
              exact ⟨dt1113, rfl, hI1114, hF1116, (Or.inl ⟨rfl, ⟨by exact RSX_f fe1126 fl1125 (by first | rfl | with_reducible assumption | exact unhid (by with_reducible assumption) | fail) (by first | rfl | with_reducible assumption | exact unhid (by with_reducible assumption) | fail), by first | exact True.intro | with_reducible assumption | exact unhid (by with_reducible assumption) | rfl | fail | trivial, by first | exact True.intro | with_reducible assumption | exact unhid (by with_reducible assumption) | rfl | fail | trivial, by first | exact True.intro | with_reducible assumption | exact unhid (by with_reducible assumption) | rfl | fail | trivial⟩⟩)⟩
            · skip
              obtain ⟨h1112_0, h1112_1, h1112_2, h1112_3, h1112_4, h1112_5, h1112_6, h1112_7, h1112_8, h1112_9⟩ := h1112
              have w1127 : dt1113 79 2 = dt 79 2 := h1112_3.trans w1088
              have w1128 : dt1113 79 9 = dt 79 9 := h1112_4.trans w1089
              have w1129 : dt1113 79 10 = dt 79 10 := h1112_5.trans w1090
              have w1130 : dt1113 79 11 = dt 79 11 := h1112_6.trans w1091
              have w1131 : dt1113 79 12 = dt 79 12 := h1112_7.trans w1092
              have w1132 : dt1113 79 17 = dt 79 17 := h1112_8.trans w1093
              have w1133 : dt1113 79 20 = dt 79 20 := h1112_9.trans w1094
              have BL1134 : ∀ j : Nat, (j : Int) < 5 * dt 79 10 → dt1113 82 j = dt 82 j := fun j hj => (hF1115 82 (by decide) j).trans (BL1096 j hj)
              have Y1135 := (hF1115 82 (by decide) _).trans Y1097
              have Y1136 := (hF1115 82 (by decide) _).trans Y1098
              have Y1137 := (hF1115 82 (by decide) _).trans Y1099
              obtain ⟨j1138, ej1139, hc1140⟩ := RSX_1 h1112_0 (by decide)
              have hp1141 : (gAF (KF 0 b n) (VF b n) (dt 79 10)) i = gOk j1138 := hp1103.trans ((show (hA3 (KF 0 b n) (VF b n) 5) j1100 = gB ((gK (KF 0 b n) (159 - 100)) j1100) gOk by first | exact gB_id.symm | ((repeat (first | rw [hA0_n (by decide)] | rw [hA1_n (by decide)] | rw [hA2_n (by decide)] | rw [hA3_n (by decide)])); exact gB_id.symm)).trans (by rw [ej1139]; exact gB_0))
              have hi1142 : j1138 ≤ t := by have z := (fun (h : KZ (KF 0 b n) t) => gK_M (K := (KF 0 b n)) (k := 159 - 100) (i := j1100) h (by decide)) hz; rw [ej1139] at z; have y := z rfl; simp only at y; omega
              clear cr1105 cb1106 cd1106 cv1107 ck1108
              have cr1143 := hid (CUR_R hc1140 (.inl rfl))
              have cd1144 := CUR_d (hc1140)
              have cb1144 := hid (CUR_b hc1140)
              have cv1145 := hid (CUR_v hc1140)
              have ck1146 := hid (KZ_lt (i := j1138) hz)
              have c11147 := (hc1140).1
              have ci1148 := hi1142
              clear h1112_3 w1088 h1112_4 w1089 h1112_5 h1112_6 h1112_7 w1092 h1112_8 w1093 h1112_9 w1094
              refine go_retq PM172 (k := 0) (r := some (.inl 1)) (w1 := (SH, dt1113)) rfl ?_
              exact ⟨dt1113, rfl, hI1114, hF1116, (Or.inr ⟨rfl, ⟨by exact RSX_ok hp1141 hc1140, by first | exact True.intro | with_reducible assumption | exact unhid (by with_reducible assumption) | rfl | fail | trivial, by unfold ARF ATT ABB; exact ⟨by rw [Y1135]; omega, Y1136.trans (congrArg (VF b n) (by omega)), fun z_ => by (exfalso; omega), fun z_ => by (rw [if_neg (by omega), if_neg (by omega)]; exact Y1137.trans (congrArg (VF b n) (by omega))), fun z_ => by (exfalso; omega), fun z_ => by (exfalso; omega)⟩, by exact BL1134, by first | exact True.intro | with_reducible assumption | exact unhid (by with_reducible assumption) | rfl | omega | trivial, by exact (InvC_get (by assumption) 79 15 rfl rfl).2, by first | exact True.intro | with_reducible assumption | exact unhid (by with_reducible assumption) | rfl | fail | trivial, by first | exact True.intro | with_reducible assumption | exact unhid (by with_reducible assumption) | rfl | fail | trivial, by first | exact True.intro | with_reducible assumption | exact unhid (by with_reducible assumption) | rfl | fail | trivial, by first | exact True.intro | with_reducible assumption | exact unhid (by with_reducible assumption) | rfl | fail | trivial, by first | exact True.intro | with_reducible assumption | exact unhid (by with_reducible assumption) | rfl | fail | trivial, by first | exact True.intro | with_reducible assumption | exact unhid (by with_reducible assumption) | rfl | fail | trivial⟩⟩)⟩
      · rw [hc7]
        refine go_toq PM172 (k := 1) (pc' := 44) (L' := [some (.inr (.inr (some 79))), some (.inl 6)]) (st' := [.inr (.inr (some 79))]) (w' := (SH, dt)) rfl ?_
        refine go_callq PM172 PM159 (Q' := _) rfl rfl rfl rfl (sp_X6_next0_p0 L xs sio (d + 2) dt hI   (by first | exact True.intro | with_reducible assumption | exact unhid (by with_reducible assumption) | rfl | omega | trivial) (by first | exact True.intro | with_reducible assumption | exact unhid (by with_reducible assumption) | rfl | fail | trivial)) ?_
        rintro _ _ ⟨dt1150, rfl, hI1151, hF1152, h1149⟩
        refine ⟨rfl, ?_⟩
        have hF1153 : Fr [79, 82] dt dt1150 := Fr_tr hF hF1152 (by decide)
        rcases h1149 with ⟨rfl, h1149⟩
        obtain ⟨h1149_0, h1149_1, h1149_2, h1149_3, h1149_4, h1149_5, h1149_6, h1149_7, h1149_8⟩ := h1149
        have w1154 : dt1150 79 2 = dt 79 2 := h1149_2
        have w1155 : dt1150 79 9 = dt 79 9 := h1149_3
        have w1156 : dt1150 79 10 = dt 79 10 := h1149_4
        have w1157 : dt1150 79 11 = dt 79 11 := h1149_5
        have w1158 : dt1150 79 12 = dt 79 12 := h1149_6
        have w1159 : dt1150 79 17 = dt 79 17 := h1149_7
        have w1160 : dt1150 79 20 = dt 79 20 := h1149_8
        have BL1161 : ∀ j : Nat, (j : Int) < 5 * dt 79 10 → dt1150 82 j = dt 82 j := fun j hj => (hF1152 82 (by decide) j).trans ((fun _ _ => rfl) j hj)
        have hq1162 := h1149_0
        rw [hbb, show (dt 79 12).toNat = n from (congrArg Int.toNat hnn).trans (Int.toNat_natCast n)] at hq1162
        have hc1163 : CUR 0 b n dt1150 (i + 1) := CUR_n hc hq1162
        have hi1164 : i + 1 ≤ t := by (have z_ := unhid u2_; omega)
        have av1165 : dt 79 15 + 1 ≤ dt 79 13 := by (have z_ := unhid u2_; omega)
        have kk_ : KF 0 b n i = 1006 := by (have z_ := unhid u2_; omega)
        have hp1166 : (gAF (KF 0 b n) (VF b n) (dt 79 10)) i = (gAct (KF 0 b n) (VF b n) 6) (i + 1) := (rfl : (gAF (KF 0 b n) (VF b n) (dt 79 10)) i = (gAF (KF 0 b n) (VF b n) (dt 79 10)) i).trans (by show gAF _ _ _ _ = _; unfold gAF; rw [if_neg (by (have z_ := unhid u2_; omega)), if_neg (by (have z_ := unhid u2_; omega)), show (KF 0 b n) i - 1000 = 6 by first | with_reducible assumption | exact unhid (by with_reducible assumption) | (have z_ := unhid u2_; omega)])
        clear cr0 cb0 cd0 cv0 ck0
        have cr1167 := hid (CUR_R hc1163 (.inl rfl))
        have cd1168 := CUR_d (hc1163)
        have cb1168 := hid (CUR_b hc1163)
        have cv1169 := hid (CUR_v hc1163)
        have ck1170 := hid (KZ_lt (i := (i + 1)) hz)
        have c11171 := (hc1163).1
        have ci1172 := hi1164
        clear h1149_2 h1149_3 h1149_4 h1149_5 h1149_6 h1149_7 h1149_8
        have r1173 : 0 ≤ dt1150 79 10 ∧ dt1150 79 10 ≤ 24 := InvC_get hI1151 79 10 rfl rfl
        refine go_toq PM172 (k := 7) (pc' := 58) (L' := [some (.inr (.inr (some 79))), some (.inl 6)]) (st' := [.inl 6, .inl (5 * (dt1150 79 10)), .inr (.inr (some 82))]) (w' := (SH, dt1150)) rfl ?_
        have hI1174 : InvC (u2 dt1150 82 ((5 * (dt1150 79 10)).toNat) 6) := InvC_u2 hI1151 (lo := -2147483648) (hi := 2147483647) rfl rfl rfl (by decide) (by decide)
        have hF1175 : Fr [79, 82] dt (u2 dt1150 82 ((5 * (dt1150 79 10)).toNat) 6) := Fr_u2 hF1153 (by decide)
        have w1176 : (u2 dt1150 82 ((5 * (dt1150 79 10)).toNat) 6) 79 2 = dt 79 2 := w1154
        have w1177 : (u2 dt1150 82 ((5 * (dt1150 79 10)).toNat) 6) 79 9 = dt 79 9 := w1155
        have w1178 : (u2 dt1150 82 ((5 * (dt1150 79 10)).toNat) 6) 79 10 = dt 79 10 := w1156
        have w1179 : (u2 dt1150 82 ((5 * (dt1150 79 10)).toNat) 6) 79 11 = dt 79 11 := w1157
        have w1180 : (u2 dt1150 82 ((5 * (dt1150 79 10)).toNat) 6) 79 12 = dt 79 12 := w1158
        have w1181 : (u2 dt1150 82 ((5 * (dt1150 79 10)).toNat) 6) 79 13 = dt1150 79 13 := rfl
        have w1182 : (u2 dt1150 82 ((5 * (dt1150 79 10)).toNat) 6) 79 14 = dt1150 79 14 := rfl
        have w1183 : (u2 dt1150 82 ((5 * (dt1150 79 10)).toNat) 6) 79 15 = dt1150 79 15 := rfl
        have w1184 : (u2 dt1150 82 ((5 * (dt1150 79 10)).toNat) 6) 79 16 = dt1150 79 16 := rfl
        have w1185 : (u2 dt1150 82 ((5 * (dt1150 79 10)).toNat) 6) 79 17 = dt 79 17 := w1159
        have w1186 : (u2 dt1150 82 ((5 * (dt1150 79 10)).toNat) 6) 79 18 = dt1150 79 18 := rfl
        have w1187 : (u2 dt1150 82 ((5 * (dt1150 79 10)).toNat) 6) 79 20 = dt 79 20 := w1160
        have BL1188 : ∀ j : Nat, (j : Int) < 5 * dt 79 10 → (u2 dt1150 82 ((5 * (dt1150 79 10)).toNat) 6) 82 j = dt 82 j := fun j hj => (u2_ne (by omega)).trans (BL1161 j hj)
        have Y1189 : (u2 dt1150 82 ((5 * (dt1150 79 10)).toNat) 6) 82 (5 * (dt 79 10)).toNat = 6 := by rw [show (5 * (dt 79 10)).toNat = (5 * (dt1150 79 10)).toNat by first | with_reducible assumption | exact unhid (by with_reducible assumption) | omega]; exact u2_eq
        have hc1190 : CUR 0 b n (u2 dt1150 82 ((5 * (dt1150 79 10)).toNat) 6) (i + 1) := CUR_sm hc1163 rfl rfl rfl rfl
        refine go_smpq PM172 (L' := [some (.inr (.inr (some 79))), some (.inl 6)]) (st' := []) (w' := (SH, (u2 dt1150 82 ((5 * (dt1150 79 10)).toNat) 6))) rfl rfl (s_iast (n := 120) rfl ⟨by omega, by omega⟩ ⟨by decide, by decide⟩) ?_
        refine go_toq PM172 (k := 6) (pc' := 72) (L' := [some (.inr (.inr (some 79))), some (.inl 6)]) (st' := [.inl 3, .inl 1, .inr (.inr (some 79))]) (w' := (SH, (u2 dt1150 82 ((5 * (dt1150 79 10)).toNat) 6))) rfl ?_
        refine go_callq PM172 PM171 (Q' := _) rfl rfl rfl rfl (sp_X6_argument_g0 L xs sio (d + 0) (u2 dt1150 82 ((5 * (dt1150 79 10)).toNat) 6) hI1174 b n t (i + 1) (by first | exact hbb | (rw [show (u2 dt1150 82 ((5 * (dt1150 79 10)).toNat) 6) 85 = dt 85 from funext (hF1175 85 (by decide)), show (u2 dt1150 82 ((5 * (dt1150 79 10)).toNat) 6) 79 12 = dt 79 12 by first | with_reducible assumption | exact unhid (by with_reducible assumption) | fail]; exact hbb)) (by first | with_reducible assumption | exact unhid (by with_reducible assumption) | exact Eq.trans (by with_reducible assumption) hnn | fail) hz ht hc1190 hi1164 hn5 1 ⟨by decide, by decide⟩ 3 ⟨by decide, by decide⟩ (by first | exact True.intro | with_reducible assumption | exact unhid (by with_reducible assumption) | rfl | omega | trivial) (by first | exact True.intro | with_reducible assumption | exact unhid (by with_reducible assumption) | rfl | omega | trivial)) ?_
        rintro _ _ ⟨dt1192, rfl, hI1193, hF1194, h1191⟩
        refine ⟨rfl, ?_⟩
        have hF1195 : Fr [79, 82] dt dt1192 := Fr_tr hF1175 hF1194 (by decide)
        rcases h1191 with ⟨rfl, h1191⟩ | ⟨rfl, h1191⟩
        · skip
          obtain ⟨h1191_0, h1191_1, h1191_2, h1191_3, h1191_4⟩ := h1191
          have w1196 : dt1192 79 2 = dt 79 2 := h1191_1.trans w1176
          have w1197 : dt1192 79 9 = dt 79 9 := h1191_2.trans w1177
          have w1198 : dt1192 79 10 = dt 79 10 := h1191_3.trans w1178
          have w1199 : dt1192 79 12 = dt 79 12 := h1191_4.trans w1180
          have fl1200 := RSX_0 h1191_0 rfl
          have fe1201 : (gAF (KF 0 b n) (VF b n) (dt 79 10)) i = (gA (KF 0 b n) (VF b n) 3) (i + 1) := hp1166.trans ((show (gAct (KF 0 b n) (VF b n) 6) (i + 1) = gB ((gA (KF 0 b n) (VF b n) 3) (i + 1)) (hA0 (KF 0 b n) (VF b n) 6 ((VF b n) (i + 1))) by exact hAc_n (by decide)).trans (gB_no fl1200.1))
          clear h1191_1 w1176 h1191_2 w1177 h1191_3 w1178 h1191_4 w1180
          refine go_retq PM172 (k := 2) (r := some (.inl 0)) (w1 := (SH, dt1192)) rfl ?_
          exact ⟨dt1192, rfl, hI1193, hF1195, (Or.inl ⟨rfl, ⟨by exact RSX_f fe1201 fl1200 (by first | rfl | with_reducible assumption | exact unhid (by with_reducible assumption) | fail) (by first | rfl | with_reducible assumption | exact unhid (by with_reducible assumption) | fail), by first | exact True.intro | with_reducible assumption | exact unhid (by with_reducible assumption) | rfl | fail | trivial, by first | exact True.intro | with_reducible assumption | exact unhid (by with_reducible assumption) | rfl | fail | trivial, by first | exact True.intro | with_reducible assumption | exact unhid (by with_reducible assumption) | rfl | fail | trivial⟩⟩)⟩
        · skip
          obtain ⟨h1191_0, h1191_1, h1191_2, h1191_3, h1191_4, h1191_5, h1191_6, h1191_7, h1191_8, h1191_9, h1191_10, h1191_11⟩ := h1191
          have w1202 : dt1192 79 2 = dt 79 2 := h1191_5.trans w1176
          have w1203 : dt1192 79 9 = dt 79 9 := h1191_6.trans w1177
          have w1204 : dt1192 79 10 = dt 79 10 := h1191_7.trans w1178
          have w1205 : dt1192 79 11 = dt 79 11 := h1191_8.trans w1179
          have w1206 : dt1192 79 12 = dt 79 12 := h1191_9.trans w1180
          have w1207 : dt1192 79 17 = dt 79 17 := h1191_10.trans w1185
          have w1208 : dt1192 79 20 = dt 79 20 := h1191_11.trans w1187
          have ee1209 : (u2 dt1150 82 ((5 * (dt1150 79 10)).toNat) 6) 79 10 = dt 79 10 := by omega
          rw [ee1209] at h1191_1 h1191_2
          have BL1210 : ∀ j : Nat, (j : Int) < 5 * dt 79 10 → dt1192 82 j = dt 82 j := fun j hj => (h1191_2 j (by omega)).trans (BL1188 j hj)
          have Y1211 := (h1191_2 _ (by omega)).trans Y1189
          have Y1212 := h1191_1
          obtain ⟨j1213, ej1214, hc1215⟩ := RSX_1 h1191_0 (by decide)
          have hp1216 : (gAF (KF 0 b n) (VF b n) (dt 79 10)) i = (hA0 (KF 0 b n) (VF b n) 6 ((VF b n) (i + 1))) j1213 := hp1166.trans ((show (gAct (KF 0 b n) (VF b n) 6) (i + 1) = gB ((gA (KF 0 b n) (VF b n) 3) (i + 1)) (hA0 (KF 0 b n) (VF b n) 6 ((VF b n) (i + 1))) by exact hAc_n (by decide)).trans (by rw [ej1214]; exact gB_0))
          have hi1217 : j1213 ≤ t := by have z := gA_M (K := (KF 0 b n)) (V := (VF b n)) (m := 3) (i := (i + 1)) hz; rw [ej1214] at z; have y := z rfl; simp only at y; omega
          clear cr1167 cb1168 cd1168 cv1169 ck1170
          have cr1218 := hid (CUR_R hc1215 (.inl rfl))
          have cd1219 := CUR_d (hc1215)
          have cb1219 := hid (CUR_b hc1215)
          have cv1220 := hid (CUR_v hc1215)
          have ck1221 := hid (KZ_lt (i := j1213) hz)
          have c11222 := (hc1215).1
          have ci1223 := hi1217
          have ej1224 : j1213 = (i + 1) + 1 := by have z_ := gA_at (K := (KF 0 b n)) (V := (VF b n)) (m := 3) (i := (i + 1)) (by rw [ej1214]); rw [ej1214] at z_; exact z_
          clear h1191_5 w1176 h1191_6 w1177 h1191_7 w1178 h1191_8 w1179 h1191_9 w1180 h1191_10 w1185 h1191_11 w1187
          refine go_toq PM172 (k := 31) (pc' := 196) (L' := [some (.inr (.inr (some 79))), some (.inl 6)]) (st' := [.inl 1, .inl 3, .inr (.inr (some 79))]) (w' := (SH, dt1192)) rfl ?_
          refine go_callq PM172 PM171 (Q' := _) rfl rfl rfl rfl (sp_X6_argument_g0 L xs sio (d + 0) dt1192 hI1193 b n t j1213 (by first | exact hbb | (rw [show dt1192 85 = dt 85 from funext (hF1195 85 (by decide)), show dt1192 79 12 = dt 79 12 by first | with_reducible assumption | exact unhid (by with_reducible assumption) | fail]; exact hbb)) (by first | with_reducible assumption | exact unhid (by with_reducible assumption) | exact Eq.trans (by with_reducible assumption) hnn | fail) hz ht hc1215 hi1217 hn5 3 ⟨by decide, by decide⟩ 1 ⟨by decide, by decide⟩ (by first | exact True.intro | with_reducible assumption | exact unhid (by with_reducible assumption) | rfl | omega | trivial) (by first | exact True.intro | with_reducible assumption | exact unhid (by with_reducible assumption) | rfl | omega | trivial)) ?_
          rintro _ _ ⟨dt1226, rfl, hI1227, hF1228, h1225⟩
          refine ⟨rfl, ?_⟩
          have hF1229 : Fr [79, 82] dt dt1226 := Fr_tr hF1195 hF1228 (by decide)
          rcases h1225 with ⟨rfl, h1225⟩ | ⟨rfl, h1225⟩
          · skip
            obtain ⟨h1225_0, h1225_1, h1225_2, h1225_3, h1225_4⟩ := h1225
            have w1230 : dt1226 79 2 = dt 79 2 := h1225_1.trans w1202
            have w1231 : dt1226 79 9 = dt 79 9 := h1225_2.trans w1203
            have w1232 : dt1226 79 10 = dt 79 10 := h1225_3.trans w1204
            have w1233 : dt1226 79 12 = dt 79 12 := h1225_4.trans w1206
            have fl1234 := RSX_0 h1225_0 rfl
            have fe1235 : (gAF (KF 0 b n) (VF b n) (dt 79 10)) i = (gA (KF 0 b n) (VF b n) 1) j1213 := hp1216.trans ((show (hA0 (KF 0 b n) (VF b n) 6 ((VF b n) (i + 1))) j1213 = gB ((gA (KF 0 b n) (VF b n) 1) j1213) (gK (KF 0 b n) 59) by (repeat (first | rw [hA0_n (by decide)] | rw [hA1_n (by decide)] | rw [hA2_n (by decide)] | rw [hA3_n (by decide)])); exact hA3_p rfl).trans (gB_no fl1234.1))
            clear h1225_1 w1202 h1225_2 w1203 h1225_3 h1225_4 w1206
            refine go_retq PM172 (k := 2) (r := some (.inl 0)) (w1 := (SH, dt1226)) rfl ?_
            exact ⟨dt1226, rfl, hI1227, hF1229, (Or.inl ⟨rfl, ⟨by exact RSX_f fe1235 fl1234 (by first | rfl | with_reducible assumption | exact unhid (by with_reducible assumption) | fail) (by first | rfl | with_reducible assumption | exact unhid (by with_reducible assumption) | fail), by first | exact True.intro | with_reducible assumption | exact unhid (by with_reducible assumption) | rfl | fail | trivial, by first | exact True.intro | with_reducible assumption | exact unhid (by with_reducible assumption) | rfl | fail | trivial, by first | exact True.intro | with_reducible assumption | exact unhid (by with_reducible assumption) | rfl | fail | trivial⟩⟩)⟩
          · skip
            obtain ⟨h1225_0, h1225_1, h1225_2, h1225_3, h1225_4, h1225_5, h1225_6, h1225_7, h1225_8, h1225_9, h1225_10, h1225_11⟩ := h1225
            have w1236 : dt1226 79 2 = dt 79 2 := h1225_5.trans w1202
            have w1237 : dt1226 79 9 = dt 79 9 := h1225_6.trans w1203
            have w1238 : dt1226 79 10 = dt 79 10 := h1225_7.trans w1204
            have w1239 : dt1226 79 11 = dt 79 11 := h1225_8.trans w1205
            have w1240 : dt1226 79 12 = dt 79 12 := h1225_9.trans w1206
            have w1241 : dt1226 79 17 = dt 79 17 := h1225_10.trans w1207
            have w1242 : dt1226 79 20 = dt 79 20 := h1225_11.trans w1208
            have ee1243 : dt1192 79 10 = dt 79 10 := by omega
            rw [ee1243] at h1225_1 h1225_2
            have BL1244 : ∀ j : Nat, (j : Int) < 5 * dt 79 10 → dt1226 82 j = dt 82 j := fun j hj => (h1225_2 j (by omega)).trans (BL1210 j hj)
            have Y1245 := (h1225_2 _ (by omega)).trans Y1211
            have Y1246 := (h1225_2 _ (by omega)).trans Y1212
            have Y1247 := h1225_1
            obtain ⟨j1248, ej1249, hc1250⟩ := RSX_1 h1225_0 (by decide)
            have hp1251 : (gAF (KF 0 b n) (VF b n) (dt 79 10)) i = (gK (KF 0 b n) 59) j1248 := hp1216.trans ((show (hA0 (KF 0 b n) (VF b n) 6 ((VF b n) (i + 1))) j1213 = gB ((gA (KF 0 b n) (VF b n) 1) j1213) (gK (KF 0 b n) 59) by (repeat (first | rw [hA0_n (by decide)] | rw [hA1_n (by decide)] | rw [hA2_n (by decide)] | rw [hA3_n (by decide)])); exact hA3_p rfl).trans (by rw [ej1249]; exact gB_0))
            have hi1252 : j1248 ≤ t := by have z := gA_M (K := (KF 0 b n)) (V := (VF b n)) (m := 1) (i := j1213) hz; rw [ej1249] at z; have y := z rfl; simp only at y; omega
            clear cr1218 cb1219 cd1219 cv1220 ck1221
            have cr1253 := hid (CUR_R hc1250 (.inl rfl))
            have cd1254 := CUR_d (hc1250)
            have cb1254 := hid (CUR_b hc1250)
            have cv1255 := hid (CUR_v hc1250)
            have ck1256 := hid (KZ_lt (i := j1248) hz)
            have c11257 := (hc1250).1
            have ci1258 := hi1252
            have ej1259 : j1248 = j1213 + 1 := by have z_ := gA_at (K := (KF 0 b n)) (V := (VF b n)) (m := 1) (i := j1213) (by rw [ej1249]); rw [ej1249] at z_; exact z_
            clear h1225_5 w1202 h1225_6 w1203 h1225_7 h1225_8 h1225_9 w1206 h1225_10 w1207 h1225_11 w1208
            refine go_toq PM172 (k := 3) (pc' := 208) (L' := [some (.inr (.inr (some 79))), some (.inl 6)]) (st' := [.inl 159, .inr (.inr (some 79))]) (w' := (SH, dt1226)) rfl ?_
            refine go_callq PM172 PM161 (Q' := _) rfl rfl rfl rfl (sp_X6_need0_g0 L xs sio (d + 1) dt1226 hI1227 b n t j1248 (by first | exact hbb | (rw [show dt1226 85 = dt 85 from funext (hF1229 85 (by decide)), show dt1226 79 12 = dt 79 12 by first | with_reducible assumption | exact unhid (by with_reducible assumption) | fail]; exact hbb)) (by first | with_reducible assumption | exact unhid (by with_reducible assumption) | exact Eq.trans (by with_reducible assumption) hnn | fail) hz ht hc1250 hi1252 hn5 159 ⟨by decide, by decide⟩ (by first | exact True.intro | with_reducible assumption | exact unhid (by with_reducible assumption) | rfl | omega | trivial)) ?_
            rintro _ _ ⟨dt1261, rfl, hI1262, hF1263, h1260⟩
            refine ⟨rfl, ?_⟩
            have hF1264 : Fr [79, 82] dt dt1261 := Fr_tr hF1229 hF1263 (by decide)
            rcases h1260 with ⟨rfl, h1260⟩ | ⟨rfl, h1260⟩
            · skip
              obtain ⟨h1260_0, h1260_1, h1260_2, h1260_3, h1260_4⟩ := h1260
              have w1265 : dt1261 79 2 = dt 79 2 := h1260_1.trans w1236
              have w1266 : dt1261 79 9 = dt 79 9 := h1260_2.trans w1237
              have w1267 : dt1261 79 10 = dt 79 10 := h1260_3.trans w1238
              have w1268 : dt1261 79 12 = dt 79 12 := h1260_4.trans w1240
              have BL1269 : ∀ j : Nat, (j : Int) < 5 * dt 79 10 → dt1261 82 j = dt 82 j := fun j hj => (hF1263 82 (by decide) j).trans (BL1244 j hj)
              have Y1270 := (hF1263 82 (by decide) _).trans Y1245
              have Y1271 := (hF1263 82 (by decide) _).trans Y1246
              have Y1272 := (hF1263 82 (by decide) _).trans Y1247
              have fl1273 := RSX_0 h1260_0 rfl
              have fe1274 : (gAF (KF 0 b n) (VF b n) (dt 79 10)) i = (gK (KF 0 b n) (159 - 100)) j1248 := hp1251.trans ((show (gK (KF 0 b n) 59) j1248 = gB ((gK (KF 0 b n) (159 - 100)) j1248) gOk by first | exact gB_id.symm | ((repeat (first | rw [hA0_n (by decide)] | rw [hA1_n (by decide)] | rw [hA2_n (by decide)] | rw [hA3_n (by decide)])); exact gB_id.symm)).trans (gB_no fl1273.1))
              clear h1260_1 w1236 h1260_2 w1237 h1260_3 h1260_4 w1240
              refine go_retq PM172 (k := 0) (r := some (.inl 0)) (w1 := (SH, dt1261)) rfl ?_
              exact ⟨dt1261, rfl, hI1262, hF1264, (Or.inl ⟨rfl, ⟨by exact RSX_f fe1274 fl1273 (by first | rfl | with_reducible assumption | exact unhid (by with_reducible assumption) | fail) (by first | rfl | with_reducible assumption | exact unhid (by with_reducible assumption) | fail), by first | exact True.intro | with_reducible assumption | exact unhid (by with_reducible assumption) | rfl | fail | trivial, by first | exact True.intro | with_reducible assumption | exact unhid (by with_reducible assumption) | rfl | fail | trivial, by first | exact True.intro | with_reducible assumption | exact unhid (by with_reducible assumption) | rfl | fail | trivial⟩⟩)⟩
            · skip
              obtain ⟨h1260_0, h1260_1, h1260_2, h1260_3, h1260_4, h1260_5, h1260_6, h1260_7, h1260_8, h1260_9⟩ := h1260
              have w1275 : dt1261 79 2 = dt 79 2 := h1260_3.trans w1236
              have w1276 : dt1261 79 9 = dt 79 9 := h1260_4.trans w1237
              have w1277 : dt1261 79 10 = dt 79 10 := h1260_5.trans w1238
              have w1278 : dt1261 79 11 = dt 79 11 := h1260_6.trans w1239
              have w1279 : dt1261 79 12 = dt 79 12 := h1260_7.trans w1240
              have w1280 : dt1261 79 17 = dt 79 17 := h1260_8.trans w1241
              have w1281 : dt1261 79 20 = dt 79 20 := h1260_9.trans w1242
              have BL1282 : ∀ j : Nat, (j : Int) < 5 * dt 79 10 → dt1261 82 j = dt 82 j := fun j hj => (hF1263 82 (by decide) j).trans (BL1244 j hj)
              have Y1283 := (hF1263 82 (by decide) _).trans Y1245
              have Y1284 := (hF1263 82 (by decide) _).trans Y1246
              have Y1285 := (hF1263 82 (by decide) _).trans Y1247
              obtain ⟨j1286, ej1287, hc1288⟩ := RSX_1 h1260_0 (by decide)
              have hp1289 : (gAF (KF 0 b n) (VF b n) (dt 79 10)) i = gOk j1286 := hp1251.trans ((show (gK (KF 0 b n) 59) j1248 = gB ((gK (KF 0 b n) (159 - 100)) j1248) gOk by first | exact gB_id.symm | ((repeat (first | rw [hA0_n (by decide)] | rw [hA1_n (by decide)] | rw [hA2_n (by decide)] | rw [hA3_n (by decide)])); exact gB_id.symm)).trans (by rw [ej1287]; exact gB_0))
              have hi1290 : j1286 ≤ t := by have z := (fun (h : KZ (KF 0 b n) t) => gK_M (K := (KF 0 b n)) (k := 159 - 100) (i := j1248) h (by decide)) hz; rw [ej1287] at z; have y := z rfl; simp only at y; omega
              clear cr1253 cb1254 cd1254 cv1255 ck1256
              have cr1291 := hid (CUR_R hc1288 (.inl rfl))
              have cd1292 := CUR_d (hc1288)
              have cb1292 := hid (CUR_b hc1288)
              have cv1293 := hid (CUR_v hc1288)
              have ck1294 := hid (KZ_lt (i := j1286) hz)
              have c11295 := (hc1288).1
              have ci1296 := hi1290
              clear h1260_3 w1236 h1260_4 w1237 h1260_5 h1260_6 h1260_7 w1240 h1260_8 w1241 h1260_9 w1242
              refine go_retq PM172 (k := 0) (r := some (.inl 1)) (w1 := (SH, dt1261)) rfl ?_
              exact ⟨dt1261, rfl, hI1262, hF1264, (Or.inr ⟨rfl, ⟨by exact RSX_ok hp1289 hc1288, by first | exact True.intro | with_reducible assumption | exact unhid (by with_reducible assumption) | rfl | fail | trivial, by unfold ARF ATT ABB; exact ⟨by rw [Y1283]; omega, Y1284.trans (congrArg (VF b n) (by omega)), fun z_ => by (exfalso; omega), fun z_ => by (exfalso; omega), fun z_ => by (exact Y1285.trans (congrArg (VF b n) (by omega))), fun z_ => by (exfalso; omega)⟩, by exact BL1282, by first | exact True.intro | with_reducible assumption | exact unhid (by with_reducible assumption) | rfl | omega | trivial, by exact (InvC_get (by assumption) 79 15 rfl rfl).2, by first | exact True.intro | with_reducible assumption | exact unhid (by with_reducible assumption) | rfl | fail | trivial, by first | exact True.intro | with_reducible assumption | exact unhid (by with_reducible assumption) | rfl | fail | trivial, by first | exact True.intro | with_reducible assumption | exact unhid (by with_reducible assumption) | rfl | fail | trivial, by first | exact True.intro | with_reducible assumption | exact unhid (by with_reducible assumption) | rfl | fail | trivial, by first | exact True.intro | with_reducible assumption | exact unhid (by with_reducible assumption) | rfl | fail | trivial, by first | exact True.intro | with_reducible assumption | exact unhid (by with_reducible assumption) | rfl | fail | trivial⟩⟩)⟩
      · rw [hc7]
        refine go_toq PM172 (k := 1) (pc' := 44) (L' := [some (.inr (.inr (some 79))), some (.inl 7)]) (st' := [.inr (.inr (some 79))]) (w' := (SH, dt)) rfl ?_
        refine go_callq PM172 PM159 (Q' := _) rfl rfl rfl rfl (sp_X6_next0_p0 L xs sio (d + 2) dt hI   (by first | exact True.intro | with_reducible assumption | exact unhid (by with_reducible assumption) | rfl | omega | trivial) (by first | exact True.intro | with_reducible assumption | exact unhid (by with_reducible assumption) | rfl | fail | trivial)) ?_
        rintro _ _ ⟨dt1298, rfl, hI1299, hF1300, h1297⟩
        refine ⟨rfl, ?_⟩
        have hF1301 : Fr [79, 82] dt dt1298 := Fr_tr hF hF1300 (by decide)
        rcases h1297 with ⟨rfl, h1297⟩
        obtain ⟨h1297_0, h1297_1, h1297_2, h1297_3, h1297_4, h1297_5, h1297_6, h1297_7, h1297_8⟩ := h1297
        have w1302 : dt1298 79 2 = dt 79 2 := h1297_2
        have w1303 : dt1298 79 9 = dt 79 9 := h1297_3
        have w1304 : dt1298 79 10 = dt 79 10 := h1297_4
        have w1305 : dt1298 79 11 = dt 79 11 := h1297_5
        have w1306 : dt1298 79 12 = dt 79 12 := h1297_6
        have w1307 : dt1298 79 17 = dt 79 17 := h1297_7
        have w1308 : dt1298 79 20 = dt 79 20 := h1297_8
        have BL1309 : ∀ j : Nat, (j : Int) < 5 * dt 79 10 → dt1298 82 j = dt 82 j := fun j hj => (hF1300 82 (by decide) j).trans ((fun _ _ => rfl) j hj)
        have hq1310 := h1297_0
        rw [hbb, show (dt 79 12).toNat = n from (congrArg Int.toNat hnn).trans (Int.toNat_natCast n)] at hq1310
        have hc1311 : CUR 0 b n dt1298 (i + 1) := CUR_n hc hq1310
        have hi1312 : i + 1 ≤ t := by (have z_ := unhid u2_; omega)
        have av1313 : dt 79 15 + 1 ≤ dt 79 13 := by (have z_ := unhid u2_; omega)
        have kk_ : KF 0 b n i = 1007 := by (have z_ := unhid u2_; omega)
        have hp1314 : (gAF (KF 0 b n) (VF b n) (dt 79 10)) i = (gAct (KF 0 b n) (VF b n) 7) (i + 1) := (rfl : (gAF (KF 0 b n) (VF b n) (dt 79 10)) i = (gAF (KF 0 b n) (VF b n) (dt 79 10)) i).trans (by show gAF _ _ _ _ = _; unfold gAF; rw [if_neg (by (have z_ := unhid u2_; omega)), if_neg (by (have z_ := unhid u2_; omega)), show (KF 0 b n) i - 1000 = 7 by first | with_reducible assumption | exact unhid (by with_reducible assumption) | (have z_ := unhid u2_; omega)])
        clear cr0 cb0 cd0 cv0 ck0
        have cr1315 := hid (CUR_R hc1311 (.inl rfl))
        have cd1316 := CUR_d (hc1311)
        have cb1316 := hid (CUR_b hc1311)
        have cv1317 := hid (CUR_v hc1311)
        have ck1318 := hid (KZ_lt (i := (i + 1)) hz)
        have c11319 := (hc1311).1
        have ci1320 := hi1312
        clear h1297_2 h1297_3 h1297_4 h1297_5 h1297_6 h1297_7 h1297_8
        have r1321 : 0 ≤ dt1298 79 10 ∧ dt1298 79 10 ≤ 24 := InvC_get hI1299 79 10 rfl rfl
        refine go_toq PM172 (k := 7) (pc' := 58) (L' := [some (.inr (.inr (some 79))), some (.inl 7)]) (st' := [.inl 7, .inl (5 * (dt1298 79 10)), .inr (.inr (some 82))]) (w' := (SH, dt1298)) rfl ?_
        have hI1322 : InvC (u2 dt1298 82 ((5 * (dt1298 79 10)).toNat) 7) := InvC_u2 hI1299 (lo := -2147483648) (hi := 2147483647) rfl rfl rfl (by decide) (by decide)
        have hF1323 : Fr [79, 82] dt (u2 dt1298 82 ((5 * (dt1298 79 10)).toNat) 7) := Fr_u2 hF1301 (by decide)
        have w1324 : (u2 dt1298 82 ((5 * (dt1298 79 10)).toNat) 7) 79 2 = dt 79 2 := w1302
        have w1325 : (u2 dt1298 82 ((5 * (dt1298 79 10)).toNat) 7) 79 9 = dt 79 9 := w1303
        have w1326 : (u2 dt1298 82 ((5 * (dt1298 79 10)).toNat) 7) 79 10 = dt 79 10 := w1304
        have w1327 : (u2 dt1298 82 ((5 * (dt1298 79 10)).toNat) 7) 79 11 = dt 79 11 := w1305
        have w1328 : (u2 dt1298 82 ((5 * (dt1298 79 10)).toNat) 7) 79 12 = dt 79 12 := w1306
        have w1329 : (u2 dt1298 82 ((5 * (dt1298 79 10)).toNat) 7) 79 13 = dt1298 79 13 := rfl
        have w1330 : (u2 dt1298 82 ((5 * (dt1298 79 10)).toNat) 7) 79 14 = dt1298 79 14 := rfl
        have w1331 : (u2 dt1298 82 ((5 * (dt1298 79 10)).toNat) 7) 79 15 = dt1298 79 15 := rfl
        have w1332 : (u2 dt1298 82 ((5 * (dt1298 79 10)).toNat) 7) 79 16 = dt1298 79 16 := rfl
        have w1333 : (u2 dt1298 82 ((5 * (dt1298 79 10)).toNat) 7) 79 17 = dt 79 17 := w1307
        have w1334 : (u2 dt1298 82 ((5 * (dt1298 79 10)).toNat) 7) 79 18 = dt1298 79 18 := rfl
        have w1335 : (u2 dt1298 82 ((5 * (dt1298 79 10)).toNat) 7) 79 20 = dt 79 20 := w1308
        have BL1336 : ∀ j : Nat, (j : Int) < 5 * dt 79 10 → (u2 dt1298 82 ((5 * (dt1298 79 10)).toNat) 7) 82 j = dt 82 j := fun j hj => (u2_ne (by omega)).trans (BL1309 j hj)
        have Y1337 : (u2 dt1298 82 ((5 * (dt1298 79 10)).toNat) 7) 82 (5 * (dt 79 10)).toNat = 7 := by rw [show (5 * (dt 79 10)).toNat = (5 * (dt1298 79 10)).toNat by first | with_reducible assumption | exact unhid (by with_reducible assumption) | omega]; exact u2_eq
        have hc1338 : CUR 0 b n (u2 dt1298 82 ((5 * (dt1298 79 10)).toNat) 7) (i + 1) := CUR_sm hc1311 rfl rfl rfl rfl
        refine go_smpq PM172 (L' := [some (.inr (.inr (some 79))), some (.inl 7)]) (st' := []) (w' := (SH, (u2 dt1298 82 ((5 * (dt1298 79 10)).toNat) 7))) rfl rfl (s_iast (n := 120) rfl ⟨by omega, by omega⟩ ⟨by decide, by decide⟩) ?_
        refine go_toq PM172 (k := 6) (pc' := 72) (L' := [some (.inr (.inr (some 79))), some (.inl 7)]) (st' := [.inl 3, .inl 1, .inr (.inr (some 79))]) (w' := (SH, (u2 dt1298 82 ((5 * (dt1298 79 10)).toNat) 7))) rfl ?_
        refine go_callq PM172 PM171 (Q' := _) rfl rfl rfl rfl (sp_X6_argument_g0 L xs sio (d + 0) (u2 dt1298 82 ((5 * (dt1298 79 10)).toNat) 7) hI1322 b n t (i + 1) (by first | exact hbb | (rw [show (u2 dt1298 82 ((5 * (dt1298 79 10)).toNat) 7) 85 = dt 85 from funext (hF1323 85 (by decide)), show (u2 dt1298 82 ((5 * (dt1298 79 10)).toNat) 7) 79 12 = dt 79 12 by first | with_reducible assumption | exact unhid (by with_reducible assumption) | fail]; exact hbb)) (by first | with_reducible assumption | exact unhid (by with_reducible assumption) | exact Eq.trans (by with_reducible assumption) hnn | fail) hz ht hc1338 hi1312 hn5 1 ⟨by decide, by decide⟩ 3 ⟨by decide, by decide⟩ (by first | exact True.intro | with_reducible assumption | exact unhid (by with_reducible assumption) | rfl | omega | trivial) (by first | exact True.intro | with_reducible assumption | exact unhid (by with_reducible assumption) | rfl | omega | trivial)) ?_
        rintro _ _ ⟨dt1340, rfl, hI1341, hF1342, h1339⟩
        refine ⟨rfl, ?_⟩
        have hF1343 : Fr [79, 82] dt dt1340 := Fr_tr hF1323 hF1342 (by decide)
        rcases h1339 with ⟨rfl, h1339⟩ | ⟨rfl, h1339⟩
        · skip
          obtain ⟨h1339_0, h1339_1, h1339_2, h1339_3, h1339_4⟩ := h1339
          have w1344 : dt1340 79 2 = dt 79 2 := h1339_1.trans w1324
          have w1345 : dt1340 79 9 = dt 79 9 := h1339_2.trans w1325
          have w1346 : dt1340 79 10 = dt 79 10 := h1339_3.trans w1326
          have w1347 : dt1340 79 12 = dt 79 12 := h1339_4.trans w1328
          have fl1348 := RSX_0 h1339_0 rfl
          have fe1349 : (gAF (KF 0 b n) (VF b n) (dt 79 10)) i = (gA (KF 0 b n) (VF b n) 3) (i + 1) := hp1314.trans ((show (gAct (KF 0 b n) (VF b n) 7) (i + 1) = gB ((gA (KF 0 b n) (VF b n) 3) (i + 1)) (hA0 (KF 0 b n) (VF b n) 7 ((VF b n) (i + 1))) by exact hAc_n (by decide)).trans (gB_no fl1348.1))
          clear h1339_1 w1324 h1339_2 w1325 h1339_3 w1326 h1339_4 w1328
          refine go_retq PM172 (k := 2) (r := some (.inl 0)) (w1 := (SH, dt1340)) rfl ?_
          exact ⟨dt1340, rfl, hI1341, hF1343, (Or.inl ⟨rfl, ⟨by exact RSX_f fe1349 fl1348 (by first | rfl | with_reducible assumption | exact unhid (by with_reducible assumption) | fail) (by first | rfl | with_reducible assumption | exact unhid (by with_reducible assumption) | fail), by first | exact True.intro | with_reducible assumption | exact unhid (by with_reducible assumption) | rfl | fail | trivial, by first | exact True.intro | with_reducible assumption | exact unhid (by with_reducible assumption) | rfl | fail | trivial, by first | exact True.intro | with_reducible assumption | exact unhid (by with_reducible assumption) | rfl | fail | trivial⟩⟩)⟩
        · skip
          obtain ⟨h1339_0, h1339_1, h1339_2, h1339_3, h1339_4, h1339_5, h1339_6, h1339_7, h1339_8, h1339_9, h1339_10, h1339_11⟩ := h1339
          have w1350 : dt1340 79 2 = dt 79 2 := h1339_5.trans w1324
          have w1351 : dt1340 79 9 = dt 79 9 := h1339_6.trans w1325
          have w1352 : dt1340 79 10 = dt 79 10 := h1339_7.trans w1326
          have w1353 : dt1340 79 11 = dt 79 11 := h1339_8.trans w1327
          have w1354 : dt1340 79 12 = dt 79 12 := h1339_9.trans w1328
          have w1355 : dt1340 79 17 = dt 79 17 := h1339_10.trans w1333
          have w1356 : dt1340 79 20 = dt 79 20 := h1339_11.trans w1335
          have ee1357 : (u2 dt1298 82 ((5 * (dt1298 79 10)).toNat) 7) 79 10 = dt 79 10 := by omega
          rw [ee1357] at h1339_1 h1339_2
          have BL1358 : ∀ j : Nat, (j : Int) < 5 * dt 79 10 → dt1340 82 j = dt 82 j := fun j hj => (h1339_2 j (by omega)).trans (BL1336 j hj)
          have Y1359 := (h1339_2 _ (by omega)).trans Y1337
          have Y1360 := h1339_1
          obtain ⟨j1361, ej1362, hc1363⟩ := RSX_1 h1339_0 (by decide)
          have hp1364 : (gAF (KF 0 b n) (VF b n) (dt 79 10)) i = (hA0 (KF 0 b n) (VF b n) 7 ((VF b n) (i + 1))) j1361 := hp1314.trans ((show (gAct (KF 0 b n) (VF b n) 7) (i + 1) = gB ((gA (KF 0 b n) (VF b n) 3) (i + 1)) (hA0 (KF 0 b n) (VF b n) 7 ((VF b n) (i + 1))) by exact hAc_n (by decide)).trans (by rw [ej1362]; exact gB_0))
          have hi1365 : j1361 ≤ t := by have z := gA_M (K := (KF 0 b n)) (V := (VF b n)) (m := 3) (i := (i + 1)) hz; rw [ej1362] at z; have y := z rfl; simp only at y; omega
          clear cr1315 cb1316 cd1316 cv1317 ck1318
          have cr1366 := hid (CUR_R hc1363 (.inl rfl))
          have cd1367 := CUR_d (hc1363)
          have cb1367 := hid (CUR_b hc1363)
          have cv1368 := hid (CUR_v hc1363)
          have ck1369 := hid (KZ_lt (i := j1361) hz)
          have c11370 := (hc1363).1
          have ci1371 := hi1365
          have ej1372 : j1361 = (i + 1) + 1 := by have z_ := gA_at (K := (KF 0 b n)) (V := (VF b n)) (m := 3) (i := (i + 1)) (by rw [ej1362]); rw [ej1362] at z_; exact z_
          clear h1339_5 w1324 h1339_6 w1325 h1339_7 w1326 h1339_8 w1327 h1339_9 w1328 h1339_10 w1333 h1339_11 w1335
          refine go_toq PM172 (k := 30) (pc' := 208) (L' := [some (.inr (.inr (some 79))), some (.inl 7)]) (st' := [.inl 159, .inr (.inr (some 79))]) (w' := (SH, dt1340)) rfl ?_
          refine go_callq PM172 PM161 (Q' := _) rfl rfl rfl rfl (sp_X6_need0_g0 L xs sio (d + 1) dt1340 hI1341 b n t j1361 (by first | exact hbb | (rw [show dt1340 85 = dt 85 from funext (hF1343 85 (by decide)), show dt1340 79 12 = dt 79 12 by first | with_reducible assumption | exact unhid (by with_reducible assumption) | fail]; exact hbb)) (by first | with_reducible assumption | exact unhid (by with_reducible assumption) | exact Eq.trans (by with_reducible assumption) hnn | fail) hz ht hc1363 hi1365 hn5 159 ⟨by decide, by decide⟩ (by first | exact True.intro | with_reducible assumption | exact unhid (by with_reducible assumption) | rfl | omega | trivial)) ?_
          rintro _ _ ⟨dt1374, rfl, hI1375, hF1376, h1373⟩
          refine ⟨rfl, ?_⟩
          have hF1377 : Fr [79, 82] dt dt1374 := Fr_tr hF1343 hF1376 (by decide)
          rcases h1373 with ⟨rfl, h1373⟩ | ⟨rfl, h1373⟩
          · skip
            obtain ⟨h1373_0, h1373_1, h1373_2, h1373_3, h1373_4⟩ := h1373
            have w1378 : dt1374 79 2 = dt 79 2 := h1373_1.trans w1350
            have w1379 : dt1374 79 9 = dt 79 9 := h1373_2.trans w1351
            have w1380 : dt1374 79 10 = dt 79 10 := h1373_3.trans w1352
            have w1381 : dt1374 79 12 = dt 79 12 := h1373_4.trans w1354
            have BL1382 : ∀ j : Nat, (j : Int) < 5 * dt 79 10 → dt1374 82 j = dt 82 j := fun j hj => (hF1376 82 (by decide) j).trans (BL1358 j hj)
            have Y1383 := (hF1376 82 (by decide) _).trans Y1359
            have Y1384 := (hF1376 82 (by decide) _).trans Y1360
            have fl1385 := RSX_0 h1373_0 rfl
            have fe1386 : (gAF (KF 0 b n) (VF b n) (dt 79 10)) i = (gK (KF 0 b n) (159 - 100)) j1361 := hp1364.trans ((show (hA0 (KF 0 b n) (VF b n) 7 ((VF b n) (i + 1))) j1361 = gB ((gK (KF 0 b n) (159 - 100)) j1361) gOk by first | exact gB_id.symm | ((repeat (first | rw [hA0_n (by decide)] | rw [hA1_n (by decide)] | rw [hA2_n (by decide)] | rw [hA3_n (by decide)])); exact gB_id.symm)).trans (gB_no fl1385.1))
            clear h1373_1 w1350 h1373_2 w1351 h1373_3 h1373_4 w1354
            refine go_retq PM172 (k := 0) (r := some (.inl 0)) (w1 := (SH, dt1374)) rfl ?_
            exact ⟨dt1374, rfl, hI1375, hF1377, (Or.inl ⟨rfl, ⟨by exact RSX_f fe1386 fl1385 (by first | rfl | with_reducible assumption | exact unhid (by with_reducible assumption) | fail) (by first | rfl | with_reducible assumption | exact unhid (by with_reducible assumption) | fail), by first | exact True.intro | with_reducible assumption | exact unhid (by with_reducible assumption) | rfl | fail | trivial, by first | exact True.intro | with_reducible assumption | exact unhid (by with_reducible assumption) | rfl | fail | trivial, by first | exact True.intro | with_reducible assumption | exact unhid (by with_reducible assumption) | rfl | fail | trivial⟩⟩)⟩
          · skip
            obtain ⟨h1373_0, h1373_1, h1373_2, h1373_3, h1373_4, h1373_5, h1373_6, h1373_7, h1373_8, h1373_9⟩ := h1373
            have w1387 : dt1374 79 2 = dt 79 2 := h1373_3.trans w1350
            have w1388 : dt1374 79 9 = dt 79 9 := h1373_4.trans w1351
            have w1389 : dt1374 79 10 = dt 79 10 := h1373_5.trans w1352
            have w1390 : dt1374 79 11 = dt 79 11 := h1373_6.trans w1353
            have w1391 : dt1374 79 12 = dt 79 12 := h1373_7.trans w1354
            have w1392 : dt1374 79 17 = dt 79 17 := h1373_8.trans w1355
            have w1393 : dt1374 79 20 = dt 79 20 := h1373_9.trans w1356
            have BL1394 : ∀ j : Nat, (j : Int) < 5 * dt 79 10 → dt1374 82 j = dt 82 j := fun j hj => (hF1376 82 (by decide) j).trans (BL1358 j hj)
            have Y1395 := (hF1376 82 (by decide) _).trans Y1359
            have Y1396 := (hF1376 82 (by decide) _).trans Y1360
            obtain ⟨j1397, ej1398, hc1399⟩ := RSX_1 h1373_0 (by decide)
            have hp1400 : (gAF (KF 0 b n) (VF b n) (dt 79 10)) i = gOk j1397 := hp1364.trans ((show (hA0 (KF 0 b n) (VF b n) 7 ((VF b n) (i + 1))) j1361 = gB ((gK (KF 0 b n) (159 - 100)) j1361) gOk by first | exact gB_id.symm | ((repeat (first | rw [hA0_n (by decide)] | rw [hA1_n (by decide)] | rw [hA2_n (by decide)] | rw [hA3_n (by decide)])); exact gB_id.symm)).trans (by rw [ej1398]; exact gB_0))
            have hi1401 : j1397 ≤ t := by have z := (fun (h : KZ (KF 0 b n) t) => gK_M (K := (KF 0 b n)) (k := 159 - 100) (i := j1361) h (by decide)) hz; rw [ej1398] at z; have y := z rfl; simp only at y; omega
            clear cr1366 cb1367 cd1367 cv1368 ck1369
            have cr1402 := hid (CUR_R hc1399 (.inl rfl))
            have cd1403 := CUR_d (hc1399)
            have cb1403 := hid (CUR_b hc1399)
            have cv1404 := hid (CUR_v hc1399)
            have ck1405 := hid (KZ_lt (i := j1397) hz)
            have c11406 := (hc1399).1
            have ci1407 := hi1401
            clear h1373_3 w1350 h1373_4 w1351 h1373_5 h1373_6 h1373_7 w1354 h1373_8 w1355 h1373_9 w1356
            refine go_retq PM172 (k := 0) (r := some (.inl 1)) (w1 := (SH, dt1374)) rfl ?_
            exact ⟨dt1374, rfl, hI1375, hF1377, (Or.inr ⟨rfl, ⟨by exact RSX_ok hp1400 hc1399, by first | exact True.intro | with_reducible assumption | exact unhid (by with_reducible assumption) | rfl | fail | trivial, by unfold ARF ATT ABB; exact ⟨by rw [Y1395]; omega, Y1396.trans (congrArg (VF b n) (by omega)), fun z_ => by (exfalso; omega), fun z_ => by (exfalso; omega), fun z_ => by (exfalso; omega), fun z_ => by (exfalso; omega)⟩, by exact BL1394, by first | exact True.intro | with_reducible assumption | exact unhid (by with_reducible assumption) | rfl | omega | trivial, by exact (InvC_get (by assumption) 79 15 rfl rfl).2, by first | exact True.intro | with_reducible assumption | exact unhid (by with_reducible assumption) | rfl | fail | trivial, by first | exact True.intro | with_reducible assumption | exact unhid (by with_reducible assumption) | rfl | fail | trivial, by first | exact True.intro | with_reducible assumption | exact unhid (by with_reducible assumption) | rfl | fail | trivial, by first | exact True.intro | with_reducible assumption | exact unhid (by with_reducible assumption) | rfl | fail | trivial, by first | exact True.intro | with_reducible assumption | exact unhid (by with_reducible assumption) | rfl | fail | trivial, by first | exact True.intro | with_reducible assumption | exact unhid (by with_reducible assumption) | rfl | fail | trivial⟩⟩)⟩
      · rw [hc7]
        refine go_toq PM172 (k := 1) (pc' := 44) (L' := [some (.inr (.inr (some 79))), some (.inl 8)]) (st' := [.inr (.inr (some 79))]) (w' := (SH, dt)) rfl ?_
        refine go_callq PM172 PM159 (Q' := _) rfl rfl rfl rfl (sp_X6_next0_p0 L xs sio (d + 2) dt hI   (by first | exact True.intro | with_reducible assumption | exact unhid (by with_reducible assumption) | rfl | omega | trivial) (by first | exact True.intro | with_reducible assumption | exact unhid (by with_reducible assumption) | rfl | fail | trivial)) ?_
        rintro _ _ ⟨dt1409, rfl, hI1410, hF1411, h1408⟩
        refine ⟨rfl, ?_⟩
        have hF1412 : Fr [79, 82] dt dt1409 := Fr_tr hF hF1411 (by decide)
        rcases h1408 with ⟨rfl, h1408⟩
        obtain ⟨h1408_0, h1408_1, h1408_2, h1408_3, h1408_4, h1408_5, h1408_6, h1408_7, h1408_8⟩ := h1408
        have w1413 : dt1409 79 2 = dt 79 2 := h1408_2
        have w1414 : dt1409 79 9 = dt 79 9 := h1408_3
        have w1415 : dt1409 79 10 = dt 79 10 := h1408_4
        have w1416 : dt1409 79 11 = dt 79 11 := h1408_5
        have w1417 : dt1409 79 12 = dt 79 12 := h1408_6
        have w1418 : dt1409 79 17 = dt 79 17 := h1408_7
        have w1419 : dt1409 79 20 = dt 79 20 := h1408_8
        have BL1420 : ∀ j : Nat, (j : Int) < 5 * dt 79 10 → dt1409 82 j = dt 82 j := fun j hj => (hF1411 82 (by decide) j).trans ((fun _ _ => rfl) j hj)
        have hq1421 := h1408_0
        rw [hbb, show (dt 79 12).toNat = n from (congrArg Int.toNat hnn).trans (Int.toNat_natCast n)] at hq1421
        have hc1422 : CUR 0 b n dt1409 (i + 1) := CUR_n hc hq1421
        have hi1423 : i + 1 ≤ t := by (have z_ := unhid u2_; omega)
        have av1424 : dt 79 15 + 1 ≤ dt 79 13 := by (have z_ := unhid u2_; omega)
        have kk_ : KF 0 b n i = 1008 := by (have z_ := unhid u2_; omega)
        have hp1425 : (gAF (KF 0 b n) (VF b n) (dt 79 10)) i = (gAct (KF 0 b n) (VF b n) 8) (i + 1) := (rfl : (gAF (KF 0 b n) (VF b n) (dt 79 10)) i = (gAF (KF 0 b n) (VF b n) (dt 79 10)) i).trans (by show gAF _ _ _ _ = _; unfold gAF; rw [if_neg (by (have z_ := unhid u2_; omega)), if_neg (by (have z_ := unhid u2_; omega)), show (KF 0 b n) i - 1000 = 8 by first | with_reducible assumption | exact unhid (by with_reducible assumption) | (have z_ := unhid u2_; omega)])
        clear cr0 cb0 cd0 cv0 ck0
        have cr1426 := hid (CUR_R hc1422 (.inl rfl))
        have cd1427 := CUR_d (hc1422)
        have cb1427 := hid (CUR_b hc1422)
        have cv1428 := hid (CUR_v hc1422)
        have ck1429 := hid (KZ_lt (i := (i + 1)) hz)
        have c11430 := (hc1422).1
        have ci1431 := hi1423
        clear h1408_2 h1408_3 h1408_4 h1408_5 h1408_6 h1408_7 h1408_8
        have r1432 : 0 ≤ dt1409 79 10 ∧ dt1409 79 10 ≤ 24 := InvC_get hI1410 79 10 rfl rfl
        refine go_toq PM172 (k := 7) (pc' := 58) (L' := [some (.inr (.inr (some 79))), some (.inl 8)]) (st' := [.inl 8, .inl (5 * (dt1409 79 10)), .inr (.inr (some 82))]) (w' := (SH, dt1409)) rfl ?_
        have hI1433 : InvC (u2 dt1409 82 ((5 * (dt1409 79 10)).toNat) 8) := InvC_u2 hI1410 (lo := -2147483648) (hi := 2147483647) rfl rfl rfl (by decide) (by decide)
        have hF1434 : Fr [79, 82] dt (u2 dt1409 82 ((5 * (dt1409 79 10)).toNat) 8) := Fr_u2 hF1412 (by decide)
        have w1435 : (u2 dt1409 82 ((5 * (dt1409 79 10)).toNat) 8) 79 2 = dt 79 2 := w1413
        have w1436 : (u2 dt1409 82 ((5 * (dt1409 79 10)).toNat) 8) 79 9 = dt 79 9 := w1414
        have w1437 : (u2 dt1409 82 ((5 * (dt1409 79 10)).toNat) 8) 79 10 = dt 79 10 := w1415
        have w1438 : (u2 dt1409 82 ((5 * (dt1409 79 10)).toNat) 8) 79 11 = dt 79 11 := w1416
        have w1439 : (u2 dt1409 82 ((5 * (dt1409 79 10)).toNat) 8) 79 12 = dt 79 12 := w1417
        have w1440 : (u2 dt1409 82 ((5 * (dt1409 79 10)).toNat) 8) 79 13 = dt1409 79 13 := rfl
        have w1441 : (u2 dt1409 82 ((5 * (dt1409 79 10)).toNat) 8) 79 14 = dt1409 79 14 := rfl
        have w1442 : (u2 dt1409 82 ((5 * (dt1409 79 10)).toNat) 8) 79 15 = dt1409 79 15 := rfl
        have w1443 : (u2 dt1409 82 ((5 * (dt1409 79 10)).toNat) 8) 79 16 = dt1409 79 16 := rfl
        have w1444 : (u2 dt1409 82 ((5 * (dt1409 79 10)).toNat) 8) 79 17 = dt 79 17 := w1418
        have w1445 : (u2 dt1409 82 ((5 * (dt1409 79 10)).toNat) 8) 79 18 = dt1409 79 18 := rfl
        have w1446 : (u2 dt1409 82 ((5 * (dt1409 79 10)).toNat) 8) 79 20 = dt 79 20 := w1419
        have BL1447 : ∀ j : Nat, (j : Int) < 5 * dt 79 10 → (u2 dt1409 82 ((5 * (dt1409 79 10)).toNat) 8) 82 j = dt 82 j := fun j hj => (u2_ne (by omega)).trans (BL1420 j hj)
        have Y1448 : (u2 dt1409 82 ((5 * (dt1409 79 10)).toNat) 8) 82 (5 * (dt 79 10)).toNat = 8 := by rw [show (5 * (dt 79 10)).toNat = (5 * (dt1409 79 10)).toNat by first | with_reducible assumption | exact unhid (by with_reducible assumption) | omega]; exact u2_eq
        have hc1449 : CUR 0 b n (u2 dt1409 82 ((5 * (dt1409 79 10)).toNat) 8) (i + 1) := CUR_sm hc1422 rfl rfl rfl rfl
        refine go_smpq PM172 (L' := [some (.inr (.inr (some 79))), some (.inl 8)]) (st' := []) (w' := (SH, (u2 dt1409 82 ((5 * (dt1409 79 10)).toNat) 8))) rfl rfl (s_iast (n := 120) rfl ⟨by omega, by omega⟩ ⟨by decide, by decide⟩) ?_
        refine go_toq PM172 (k := 7) (pc' := 72) (L' := [some (.inr (.inr (some 79))), some (.inl 8)]) (st' := [.inl 1, .inl 1, .inr (.inr (some 79))]) (w' := (SH, (u2 dt1409 82 ((5 * (dt1409 79 10)).toNat) 8))) rfl ?_
        refine go_callq PM172 PM171 (Q' := _) rfl rfl rfl rfl (sp_X6_argument_g0 L xs sio (d + 0) (u2 dt1409 82 ((5 * (dt1409 79 10)).toNat) 8) hI1433 b n t (i + 1) (by first | exact hbb | (rw [show (u2 dt1409 82 ((5 * (dt1409 79 10)).toNat) 8) 85 = dt 85 from funext (hF1434 85 (by decide)), show (u2 dt1409 82 ((5 * (dt1409 79 10)).toNat) 8) 79 12 = dt 79 12 by first | with_reducible assumption | exact unhid (by with_reducible assumption) | fail]; exact hbb)) (by first | with_reducible assumption | exact unhid (by with_reducible assumption) | exact Eq.trans (by with_reducible assumption) hnn | fail) hz ht hc1449 hi1423 hn5 1 ⟨by decide, by decide⟩ 1 ⟨by decide, by decide⟩ (by first | exact True.intro | with_reducible assumption | exact unhid (by with_reducible assumption) | rfl | omega | trivial) (by first | exact True.intro | with_reducible assumption | exact unhid (by with_reducible assumption) | rfl | omega | trivial)) ?_
        rintro _ _ ⟨dt1451, rfl, hI1452, hF1453, h1450⟩
        refine ⟨rfl, ?_⟩
        have hF1454 : Fr [79, 82] dt dt1451 := Fr_tr hF1434 hF1453 (by decide)
        rcases h1450 with ⟨rfl, h1450⟩ | ⟨rfl, h1450⟩
        · skip
          obtain ⟨h1450_0, h1450_1, h1450_2, h1450_3, h1450_4⟩ := h1450
          have w1455 : dt1451 79 2 = dt 79 2 := h1450_1.trans w1435
          have w1456 : dt1451 79 9 = dt 79 9 := h1450_2.trans w1436
          have w1457 : dt1451 79 10 = dt 79 10 := h1450_3.trans w1437
          have w1458 : dt1451 79 12 = dt 79 12 := h1450_4.trans w1439
          have fl1459 := RSX_0 h1450_0 rfl
          have fe1460 : (gAF (KF 0 b n) (VF b n) (dt 79 10)) i = (gA (KF 0 b n) (VF b n) 1) (i + 1) := hp1425.trans ((show (gAct (KF 0 b n) (VF b n) 8) (i + 1) = gB ((gA (KF 0 b n) (VF b n) 1) (i + 1)) (gK (KF 0 b n) 59) by exact hAc_p rfl).trans (gB_no fl1459.1))
          clear h1450_1 w1435 h1450_2 w1436 h1450_3 w1437 h1450_4 w1439
          refine go_retq PM172 (k := 2) (r := some (.inl 0)) (w1 := (SH, dt1451)) rfl ?_
          exact ⟨dt1451, rfl, hI1452, hF1454, (Or.inl ⟨rfl, ⟨by exact RSX_f fe1460 fl1459 (by first | rfl | with_reducible assumption | exact unhid (by with_reducible assumption) | fail) (by first | rfl | with_reducible assumption | exact unhid (by with_reducible assumption) | fail), by first | exact True.intro | with_reducible assumption | exact unhid (by with_reducible assumption) | rfl | fail | trivial, by first | exact True.intro | with_reducible assumption | exact unhid (by with_reducible assumption) | rfl | fail | trivial, by first | exact True.intro | with_reducible assumption | exact unhid (by with_reducible assumption) | rfl | fail | trivial⟩⟩)⟩
        · skip
          obtain ⟨h1450_0, h1450_1, h1450_2, h1450_3, h1450_4, h1450_5, h1450_6, h1450_7, h1450_8, h1450_9, h1450_10, h1450_11⟩ := h1450
          have w1461 : dt1451 79 2 = dt 79 2 := h1450_5.trans w1435
          have w1462 : dt1451 79 9 = dt 79 9 := h1450_6.trans w1436
          have w1463 : dt1451 79 10 = dt 79 10 := h1450_7.trans w1437
          have w1464 : dt1451 79 11 = dt 79 11 := h1450_8.trans w1438
          have w1465 : dt1451 79 12 = dt 79 12 := h1450_9.trans w1439
          have w1466 : dt1451 79 17 = dt 79 17 := h1450_10.trans w1444
          have w1467 : dt1451 79 20 = dt 79 20 := h1450_11.trans w1446
          have ee1468 : (u2 dt1409 82 ((5 * (dt1409 79 10)).toNat) 8) 79 10 = dt 79 10 := by omega
          rw [ee1468] at h1450_1 h1450_2
          have BL1469 : ∀ j : Nat, (j : Int) < 5 * dt 79 10 → dt1451 82 j = dt 82 j := fun j hj => (h1450_2 j (by omega)).trans (BL1447 j hj)
          have Y1470 := (h1450_2 _ (by omega)).trans Y1448
          have Y1471 := h1450_1
          obtain ⟨j1472, ej1473, hc1474⟩ := RSX_1 h1450_0 (by decide)
          have hp1475 : (gAF (KF 0 b n) (VF b n) (dt 79 10)) i = (gK (KF 0 b n) 59) j1472 := hp1425.trans ((show (gAct (KF 0 b n) (VF b n) 8) (i + 1) = gB ((gA (KF 0 b n) (VF b n) 1) (i + 1)) (gK (KF 0 b n) 59) by exact hAc_p rfl).trans (by rw [ej1473]; exact gB_0))
          have hi1476 : j1472 ≤ t := by have z := gA_M (K := (KF 0 b n)) (V := (VF b n)) (m := 1) (i := (i + 1)) hz; rw [ej1473] at z; have y := z rfl; simp only at y; omega
          clear cr1426 cb1427 cd1427 cv1428 ck1429
          have cr1477 := hid (CUR_R hc1474 (.inl rfl))
          have cd1478 := CUR_d (hc1474)
          have cb1478 := hid (CUR_b hc1474)
          have cv1479 := hid (CUR_v hc1474)
          have ck1480 := hid (KZ_lt (i := j1472) hz)
          have c11481 := (hc1474).1
          have ci1482 := hi1476
          have ej1483 : j1472 = (i + 1) + 1 := by have z_ := gA_at (K := (KF 0 b n)) (V := (VF b n)) (m := 1) (i := (i + 1)) (by rw [ej1473]); rw [ej1473] at z_; exact z_
          clear h1450_5 w1435 h1450_6 w1436 h1450_7 w1437 h1450_8 w1438 h1450_9 w1439 h1450_10 w1444 h1450_11 w1446
          refine go_toq PM172 (k := 30) (pc' := 208) (L' := [some (.inr (.inr (some 79))), some (.inl 8)]) (st' := [.inl 159, .inr (.inr (some 79))]) (w' := (SH, dt1451)) rfl ?_
          refine go_callq PM172 PM161 (Q' := _) rfl rfl rfl rfl (sp_X6_need0_g0 L xs sio (d + 1) dt1451 hI1452 b n t j1472 (by first | exact hbb | (rw [show dt1451 85 = dt 85 from funext (hF1454 85 (by decide)), show dt1451 79 12 = dt 79 12 by first | with_reducible assumption | exact unhid (by with_reducible assumption) | fail]; exact hbb)) (by first | with_reducible assumption | exact unhid (by with_reducible assumption) | exact Eq.trans (by with_reducible assumption) hnn | fail) hz ht hc1474 hi1476 hn5 159 ⟨by decide, by decide⟩ (by first | exact True.intro | with_reducible assumption | exact unhid (by with_reducible assumption) | rfl | omega | trivial)) ?_
          rintro _ _ ⟨dt1485, rfl, hI1486, hF1487, h1484⟩
          refine ⟨rfl, ?_⟩
          have hF1488 : Fr [79, 82] dt dt1485 := Fr_tr hF1454 hF1487 (by decide)
          rcases h1484 with ⟨rfl, h1484⟩ | ⟨rfl, h1484⟩
          · skip
            obtain ⟨h1484_0, h1484_1, h1484_2, h1484_3, h1484_4⟩ := h1484
            have w1489 : dt1485 79 2 = dt 79 2 := h1484_1.trans w1461
            have w1490 : dt1485 79 9 = dt 79 9 := h1484_2.trans w1462
            have w1491 : dt1485 79 10 = dt 79 10 := h1484_3.trans w1463
            have w1492 : dt1485 79 12 = dt 79 12 := h1484_4.trans w1465
            have BL1493 : ∀ j : Nat, (j : Int) < 5 * dt 79 10 → dt1485 82 j = dt 82 j := fun j hj => (hF1487 82 (by decide) j).trans (BL1469 j hj)
            have Y1494 := (hF1487 82 (by decide) _).trans Y1470
            have Y1495 := (hF1487 82 (by decide) _).trans Y1471
            have fl1496 := RSX_0 h1484_0 rfl
            have fe1497 : (gAF (KF 0 b n) (VF b n) (dt 79 10)) i = (gK (KF 0 b n) (159 - 100)) j1472 := hp1475.trans ((show (gK (KF 0 b n) 59) j1472 = gB ((gK (KF 0 b n) (159 - 100)) j1472) gOk by first | exact gB_id.symm | ((repeat (first | rw [hA0_n (by decide)] | rw [hA1_n (by decide)] | rw [hA2_n (by decide)] | rw [hA3_n (by decide)])); exact gB_id.symm)).trans (gB_no fl1496.1))
            clear h1484_1 w1461 h1484_2 w1462 h1484_3 h1484_4 w1465
            refine go_retq PM172 (k := 0) (r := some (.inl 0)) (w1 := (SH, dt1485)) rfl ?_
            exact ⟨dt1485, rfl, hI1486, hF1488, (Or.inl ⟨rfl, ⟨by exact RSX_f fe1497 fl1496 (by first | rfl | with_reducible assumption | exact unhid (by with_reducible assumption) | fail) (by first | rfl | with_reducible assumption | exact unhid (by with_reducible assumption) | fail), by first | exact True.intro | with_reducible assumption | exact unhid (by with_reducible assumption) | rfl | fail | trivial, by first | exact True.intro | with_reducible assumption | exact unhid (by with_reducible assumption) | rfl | fail | trivial, by first | exact True.intro | with_reducible assumption | exact unhid (by with_reducible assumption) | rfl | fail | trivial⟩⟩)⟩
          · skip
            obtain ⟨h1484_0, h1484_1, h1484_2, h1484_3, h1484_4, h1484_5, h1484_6, h1484_7, h1484_8, h1484_9⟩ := h1484
            have w1498 : dt1485 79 2 = dt 79 2 := h1484_3.trans w1461
            have w1499 : dt1485 79 9 = dt 79 9 := h1484_4.trans w1462
            have w1500 : dt1485 79 10 = dt 79 10 := h1484_5.trans w1463
            have w1501 : dt1485 79 11 = dt 79 11 := h1484_6.trans w1464
            have w1502 : dt1485 79 12 = dt 79 12 := h1484_7.trans w1465
            have w1503 : dt1485 79 17 = dt 79 17 := h1484_8.trans w1466
            have w1504 : dt1485 79 20 = dt 79 20 := h1484_9.trans w1467
            have BL1505 : ∀ j : Nat, (j : Int) < 5 * dt 79 10 → dt1485 82 j = dt 82 j := fun j hj => (hF1487 82 (by decide) j).trans (BL1469 j hj)
            have Y1506 := (hF1487 82 (by decide) _).trans Y1470
            have Y1507 := (hF1487 82 (by decide) _).trans Y1471
            obtain ⟨j1508, ej1509, hc1510⟩ := RSX_1 h1484_0 (by decide)
            have hp1511 : (gAF (KF 0 b n) (VF b n) (dt 79 10)) i = gOk j1508 := hp1475.trans ((show (gK (KF 0 b n) 59) j1472 = gB ((gK (KF 0 b n) (159 - 100)) j1472) gOk by first | exact gB_id.symm | ((repeat (first | rw [hA0_n (by decide)] | rw [hA1_n (by decide)] | rw [hA2_n (by decide)] | rw [hA3_n (by decide)])); exact gB_id.symm)).trans (by rw [ej1509]; exact gB_0))
            have hi1512 : j1508 ≤ t := by have z := (fun (h : KZ (KF 0 b n) t) => gK_M (K := (KF 0 b n)) (k := 159 - 100) (i := j1472) h (by decide)) hz; rw [ej1509] at z; have y := z rfl; simp only at y; omega
            clear cr1477 cb1478 cd1478 cv1479 ck1480
            have cr1513 := hid (CUR_R hc1510 (.inl rfl))
            have cd1514 := CUR_d (hc1510)
            have cb1514 := hid (CUR_b hc1510)
            have cv1515 := hid (CUR_v hc1510)
            have ck1516 := hid (KZ_lt (i := j1508) hz)
            have c11517 := (hc1510).1
            have ci1518 := hi1512
            clear h1484_3 w1461 h1484_4 w1462 h1484_5 h1484_6 h1484_7 w1465 h1484_8 w1466 h1484_9 w1467
            refine go_retq PM172 (k := 0) (r := some (.inl 1)) (w1 := (SH, dt1485)) rfl ?_
            exact ⟨dt1485, rfl, hI1486, hF1488, (Or.inr ⟨rfl, ⟨by exact RSX_ok hp1511 hc1510, by first | exact True.intro | with_reducible assumption | exact unhid (by with_reducible assumption) | rfl | fail | trivial, by unfold ARF ATT ABB; exact ⟨by rw [Y1506]; omega, Y1507.trans (congrArg (VF b n) (by omega)), fun z_ => by (exfalso; omega), fun z_ => by (exfalso; omega), fun z_ => by (exfalso; omega), fun z_ => by (exfalso; omega)⟩, by exact BL1505, by first | exact True.intro | with_reducible assumption | exact unhid (by with_reducible assumption) | rfl | omega | trivial, by exact (InvC_get (by assumption) 79 15 rfl rfl).2, by first | exact True.intro | with_reducible assumption | exact unhid (by with_reducible assumption) | rfl | fail | trivial, by first | exact True.intro | with_reducible assumption | exact unhid (by with_reducible assumption) | rfl | fail | trivial, by first | exact True.intro | with_reducible assumption | exact unhid (by with_reducible assumption) | rfl | fail | trivial, by first | exact True.intro | with_reducible assumption | exact unhid (by with_reducible assumption) | rfl | fail | trivial, by first | exact True.intro | with_reducible assumption | exact unhid (by with_reducible assumption) | rfl | fail | trivial, by first | exact True.intro | with_reducible assumption | exact unhid (by with_reducible assumption) | rfl | fail | trivial⟩⟩)⟩
    · skip
      refine go_toq PM172 (k := 2) (pc' := 31) (L' := [some (.inr (.inr (some 79))), none]) (st' := [.inl 3, .inr (.inr (some 79))]) (w' := (SH, dt)) rfl ?_
      refine go_callq PM172 PM160 (Q' := _) rfl rfl rfl rfl (sp_X6_bad_g L xs sio (d + 8) dt hI  3 ⟨by decide, by decide⟩ ) ?_
      rintro _ _ ⟨dt1520, rfl, hI1521, hF1522, h1519⟩
      refine ⟨rfl, ?_⟩
      have hF1523 : Fr [79, 82] dt dt1520 := Fr_tr hF hF1522 (by decide)
      rcases h1519 with ⟨rfl, h1519⟩
      obtain ⟨h1519_0, h1519_1, h1519_2, h1519_3, h1519_4, h1519_5, h1519_6, h1519_7, h1519_8, h1519_9, h1519_10, h1519_11⟩ := h1519
      have w1524 : dt1520 79 2 = dt 79 2 := h1519_2
      have w1525 : dt1520 79 9 = dt 79 9 := h1519_3
      have w1526 : dt1520 79 10 = dt 79 10 := h1519_4
      have w1527 : dt1520 79 11 = dt 79 11 := h1519_5
      have w1528 : dt1520 79 12 = dt 79 12 := h1519_6
      have w1529 : dt1520 79 13 = dt 79 13 := h1519_7
      have w1530 : dt1520 79 14 = dt 79 14 := h1519_8
      have w1531 : dt1520 79 15 = dt 79 15 := h1519_9
      have w1532 : dt1520 79 16 = dt 79 16 := h1519_10
      have w1533 : dt1520 79 20 = dt 79 20 := h1519_11
      have BL1534 : ∀ j : Nat, (j : Int) < 5 * dt 79 10 → dt1520 82 j = dt 82 j := fun j hj => (hF1522 82 (by decide) j).trans ((fun _ _ => rfl) j hj)
      have hc1535 : CUR 0 b n dt1520 i := CUR_sm hc (by first | with_reducible assumption | exact unhid (by with_reducible assumption) | rfl | fail) (by first | with_reducible assumption | exact unhid (by with_reducible assumption) | rfl | fail) (by first | with_reducible assumption | exact unhid (by with_reducible assumption) | rfl | fail) (by first | with_reducible assumption | exact unhid (by with_reducible assumption) | rfl | fail)
      clear h1519_2 h1519_3 h1519_4 h1519_5 h1519_6 h1519_7 h1519_8 h1519_9 h1519_10 h1519_11
      refine go_retq PM172 (k := 0) (r := some (.inl 0)) (w1 := (SH, dt1520)) rfl ?_
      exact ⟨dt1520, rfl, hI1521, hF1523, (Or.inl ⟨rfl, ⟨by exact RSX_no (k := 3) (j := i) ((rfl : (gAF (KF 0 b n) (VF b n) (dt 79 10)) i = (gAF (KF 0 b n) (VF b n) (dt 79 10)) i).trans (by show gAF _ _ _ _ = _; unfold gAF; rw [if_neg (by (have z_ := unhid cr0; omega)), if_pos (by omega)])) (by decide) (by omega) (by show _ = ((TP b n i : Nat) : Int); omega), by first | exact True.intro | with_reducible assumption | exact unhid (by with_reducible assumption) | rfl | fail | trivial, by first | exact True.intro | with_reducible assumption | exact unhid (by with_reducible assumption) | rfl | fail | trivial, by first | exact True.intro | with_reducible assumption | exact unhid (by with_reducible assumption) | rfl | fail | trivial⟩⟩)⟩
  · skip
    refine go_toq PM172 (k := 3) (pc' := 16) (L' := [some (.inr (.inr (some 79))), none]) (st' := [.inl 1, .inr (.inr (some 79))]) (w' := (SH, dt)) rfl ?_
    refine go_callq PM172 PM160 (Q' := _) rfl rfl rfl rfl (sp_X6_bad_g L xs sio (d + 8) dt hI  1 ⟨by decide, by decide⟩ ) ?_
    rintro _ _ ⟨dt1537, rfl, hI1538, hF1539, h1536⟩
    refine ⟨rfl, ?_⟩
    have hF1540 : Fr [79, 82] dt dt1537 := Fr_tr hF hF1539 (by decide)
    rcases h1536 with ⟨rfl, h1536⟩
    obtain ⟨h1536_0, h1536_1, h1536_2, h1536_3, h1536_4, h1536_5, h1536_6, h1536_7, h1536_8, h1536_9, h1536_10, h1536_11⟩ := h1536
    have w1541 : dt1537 79 2 = dt 79 2 := h1536_2
    have w1542 : dt1537 79 9 = dt 79 9 := h1536_3
    have w1543 : dt1537 79 10 = dt 79 10 := h1536_4
    have w1544 : dt1537 79 11 = dt 79 11 := h1536_5
    have w1545 : dt1537 79 12 = dt 79 12 := h1536_6
    have w1546 : dt1537 79 13 = dt 79 13 := h1536_7
    have w1547 : dt1537 79 14 = dt 79 14 := h1536_8
    have w1548 : dt1537 79 15 = dt 79 15 := h1536_9
    have w1549 : dt1537 79 16 = dt 79 16 := h1536_10
    have w1550 : dt1537 79 20 = dt 79 20 := h1536_11
    have BL1551 : ∀ j : Nat, (j : Int) < 5 * dt 79 10 → dt1537 82 j = dt 82 j := fun j hj => (hF1539 82 (by decide) j).trans ((fun _ _ => rfl) j hj)
    have hc1552 : CUR 0 b n dt1537 i := CUR_sm hc (by first | with_reducible assumption | exact unhid (by with_reducible assumption) | rfl | fail) (by first | with_reducible assumption | exact unhid (by with_reducible assumption) | rfl | fail) (by first | with_reducible assumption | exact unhid (by with_reducible assumption) | rfl | fail) (by first | with_reducible assumption | exact unhid (by with_reducible assumption) | rfl | fail)
    clear h1536_2 h1536_3 h1536_4 h1536_5 h1536_6 h1536_7 h1536_8 h1536_9 h1536_10 h1536_11
    refine go_retq PM172 (k := 0) (r := some (.inl 0)) (w1 := (SH, dt1537)) rfl ?_
    exact ⟨dt1537, rfl, hI1538, hF1540, (Or.inl ⟨rfl, ⟨by exact RSX_no (k := 1) (j := i) ((rfl : (gAF (KF 0 b n) (VF b n) (dt 79 10)) i = (gAF (KF 0 b n) (VF b n) (dt 79 10)) i).trans (by show gAF _ _ _ _ = _; unfold gAF; rw [if_pos (by (have z_ := unhid cr0; omega))])) (by decide) (by omega) (by show _ = ((TP b n i : Nat) : Int); omega), by first | exact True.intro | with_reducible assumption | exact unhid (by with_reducible assumption) | rfl | fail | trivial, by first | exact True.intro | with_reducible assumption | exact unhid (by with_reducible assumption) | rfl | fail | trivial, by first | exact True.intro | with_reducible assumption | exact unhid (by with_reducible assumption) | rfl | fail | trivial⟩⟩)⟩
