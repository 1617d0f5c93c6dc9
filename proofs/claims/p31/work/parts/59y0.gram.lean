set_option maxHeartbeats 1500000 in
set_option maxRecDepth 20000 in
theorem sp_X6_one_g8 (L : Nat) (xs : Nat → Int32) (sio : Option Nat) (d : Nat) (dt : Nat → Nat → Int) (hI : InvC dt) (b : Nat → Int) (n t i : Nat) (hbb : mB (dt 85) (dt 79 12) = b) (hnn : dt 79 12 = (n : Int)) (hz : KZ (KF 1 b n) t) (ht : t ≤ 500) (hc : CUR 1 b n dt i) (hi : i ≤ t) (hn5 : n ≤ 500)  (h_p0 : dt 79 9 = 1) (h_p1 : dt 79 11 ≤ dt 79 15) (h_p2 : dt 79 20 = 8) : GO (am_XX L xs sio) (d + 10) 170 0 [some (.inr (.inr (some 79))), none] [] (SH, dt) (fun r w2 => ∃ dt2 : Nat → Nat → Int, w2 = (SH, dt2) ∧ InvC dt2 ∧ Fr [79, 84] dt dt2 ∧ ((r = some (.inl 0) ∧ (RSX 1 b n i dt2 0 ((gC (KF 1 b n) (VF b n) 0) i)) ∧ (dt2 79 2 = dt 79 2) ∧ (dt2 79 9 = dt 79 9) ∧ (dt2 79 10 = dt 79 10) ∧ (dt2 79 12 = dt 79 12)) ∨ (r = some (.inl 1) ∧ (RSX 1 b n i dt2 1 ((gC (KF 1 b n) (VF b n) 0) i)) ∧ (dt 79 15 + dt2 79 11 ≤ dt2 79 15 + dt 79 11) ∧ (dt 79 11 + 1 ≤ dt2 79 11) ∧ (dt2 79 15 ≤ 500) ∧ (RXD dt dt2 ((rC (KF 1 b n) (VF b n) 0) i)) ∧ (dt2 79 2 = dt 79 2) ∧ (dt2 79 9 = dt 79 9) ∧ (dt2 79 10 = dt 79 10) ∧ (dt2 79 12 = dt 79 12) ∧ (dt2 79 17 = dt 79 17) ∧ (dt2 79 20 = dt 79 20)))) := by
  have hF : Fr [79, 84] dt dt := Fr_refl
  have r1 : 0 ≤ dt 79 15 ∧ dt 79 15 ≤ 500 := InvC_get hI 79 15 rfl rfl
  have r2 : 0 ≤ dt 79 11 ∧ dt 79 11 ≤ 510 := InvC_get hI 79 11 rfl rfl
  have r3 : 0 ≤ dt 79 10 ∧ dt 79 10 ≤ 24 := InvC_get hI 79 10 rfl rfl
  have cr0 := hid (CUR_R hc (.inr rfl))
  have cd0 := CUR_d (hc)
  have cb0 := hid (CUR_b hc)
  have cv0 := hid (CUR_v hc)
  have ck0 := hid (KZ_lt (i := i) hz)
  have c10 := hc.1
  have r4 : (-2147483648) ≤ dt 79 14 ∧ dt 79 14 ≤ 2147483647 := InvC_get hI 79 14 rfl rfl
  refine go_ifq PM170 (k := 3) (p1 := 44) (p2 := 9) (L' := [some (.inr (.inr (some 79))), none]) (st' := []) (w' := (SH, dt)) rfl (c_ne (a := dt 79 14) (b := 6) (by first | exact bnd r4 (by decide) (by decide) | exact ⟨by fail, by fail⟩) ⟨by decide, by decide⟩) (fun c5 => ?_) (fun c5 => ?_)
  · skip
    replace c5 := hid c5
    refine go_ifq PM170 (k := 3) (p1 := 92) (p2 := 54) (L' := [some (.inr (.inr (some 79))), none]) (st' := []) (w' := (SH, dt)) rfl (c_ne (a := dt 79 14) (b := 140) (by first | exact bnd r4 (by decide) (by decide) | exact ⟨by fail, by fail⟩) ⟨by decide, by decide⟩) (fun c6 => ?_) (fun c6 => ?_)
    · skip
      replace c6 := hid c6
      refine go_toq PM170 (k := 1) (pc' := 93) (L' := [some (.inr (.inr (some 79))), none]) (st' := [.inr (.inr (some 79))]) (w' := (SH, dt)) rfl ?_
      have u3_ := hid (And.intro (unhid cr0) (And.intro (unhid cb0) (And.intro (unhid cv0) (And.intro (unhid ck0) (And.intro (unhid c5) (unhid c6))))))
      refine go_callq PM170 PM165 (Q' := _) rfl rfl rfl rfl (sp_X6_sumUp_g L xs sio (d + 0) dt hI b n t i (by first | exact hbb | (rw [show dt 85 = dt 85 from funext (hF 85 (by decide)), show dt 79 12 = dt 79 12 by first | with_reducible assumption | exact unhid (by with_reducible assumption) | fail]; exact hbb)) (by first | with_reducible assumption | exact unhid (by with_reducible assumption) | exact Eq.trans (by with_reducible assumption) hnn | fail) hz ht hc hi hn5  (by first | exact True.intro | with_reducible assumption | exact unhid (by with_reducible assumption) | rfl | fail | trivial) (by first | exact True.intro | with_reducible assumption | exact unhid (by with_reducible assumption) | rfl | fail | trivial)) ?_
      rintro _ _ ⟨dt8, rfl, hI9, hF10, h7⟩
      refine ⟨rfl, ?_⟩
      have hF11 : Fr [79, 84] dt dt8 := Fr_tr hF hF10 (by decide)
      rcases h7 with ⟨rfl, h7⟩ | ⟨rfl, h7⟩
      · skip
        obtain ⟨h7_0, h7_1, h7_2, h7_3, h7_4⟩ := h7
        have w12 : dt8 79 2 = dt 79 2 := h7_1
        have w13 : dt8 79 9 = dt 79 9 := h7_2
        have w14 : dt8 79 10 = dt 79 10 := h7_3
        have w15 : dt8 79 12 = dt 79 12 := h7_4
        have fl16 := RSX_0 h7_0 rfl
        have fe17 : (gC (KF 1 b n) (VF b n) 0) i = (gE (KF 1 b n) (VF b n)) i := (rfl : (gC (KF 1 b n) (VF b n) 0) i = (gC (KF 1 b n) (VF b n) 0) i).trans ((show (gC (KF 1 b n) (VF b n) 0) i = gB ((gE (KF 1 b n) (VF b n)) i) (gR1 (KF 1 b n) (VF b n)) by exact (gC_1 (by (have z_ := unhid u3_; omega)) (by (have z_ := unhid u3_; omega))).trans gC1_R).trans (gB_no fl16.1))
        clear h7_1 h7_2 h7_3 h7_4
        refine go_retq PM170 (k := 2) (r := some (.inl 0)) (w1 := (SH, dt8)) rfl ?_
        exact ⟨dt8, rfl, hI9, hF11, (Or.inl ⟨rfl, ⟨by first | exact RSX_f fe17 fl16 (by first | rfl | with_reducible assumption | exact unhid (by with_reducible assumption) | fail) (by first | rfl | with_reducible assumption | exact unhid (by with_reducible assumption) | fail) | exact RSX_no (k := 1) (j := i) ((rfl : (gC (KF 1 b n) (VF b n) 0) i = (gC (KF 1 b n) (VF b n) 0) i).trans (by show gR1 _ _ _ = _; unfold gR1; rw [if_neg (by fail)])) (by decide) (by fail) (by show _ = ((TP b n i : Nat) : Int); fail), by first | exact True.intro | with_reducible assumption | exact unhid (by with_reducible assumption) | rfl | fail | trivial, by first | exact True.intro | with_reducible assumption | exact unhid (by with_reducible assumption) | rfl | fail | trivial, by first | exact True.intro | with_reducible assumption | exact unhid (by with_reducible assumption) | rfl | fail | trivial, by first | exact True.intro | with_reducible assumption | exact unhid (by with_reducible assumption) | rfl | fail | trivial⟩⟩)⟩
      · skip
        obtain ⟨h7_0, h7_1, h7_2, h7_3, h7_4, h7_5, h7_6, h7_7, h7_8, h7_9, h7_10⟩ := h7
        have w18 : dt8 79 2 = dt 79 2 := h7_5
        have w19 : dt8 79 9 = dt 79 9 := h7_6
        have w20 : dt8 79 10 = dt 79 10 := h7_7
        have w21 : dt8 79 12 = dt 79 12 := h7_8
        have w22 : dt8 79 17 = dt 79 17 := h7_9
        have w23 : dt8 79 20 = dt 79 20 := h7_10
        obtain ⟨j24, ej25, hc26⟩ := RSX_1 h7_0 (by decide)
        have hp27 : (gC (KF 1 b n) (VF b n) 0) i = (gR1 (KF 1 b n) (VF b n)) j24 := (rfl : (gC (KF 1 b n) (VF b n) 0) i = (gC (KF 1 b n) (VF b n) 0) i).trans ((show (gC (KF 1 b n) (VF b n) 0) i = gB ((gE (KF 1 b n) (VF b n)) i) (gR1 (KF 1 b n) (VF b n)) by exact (gC_1 (by (have z_ := unhid u3_; omega)) (by (have z_ := unhid u3_; omega))).trans gC1_R).trans (by rw [ej25]; exact gB_0))
        have hi28 : j24 ≤ t := by have z := gE_M (K := (KF 1 b n)) (V := (VF b n)) (i := i) hz; rw [ej25] at z; have y := z rfl; simp only at y; omega
        have Q29 : RQ (rC (KF 1 b n) (VF b n) 0) (fun q_ => rE (KF 1 b n) (VF b n) (q_ + 1) ++ [opc ((KF 1 b n) q_)]) dt dt8 i j24 := RQ_st RQ_0 (by omega) h7_4 (by have y_ := eE1_j (K := (KF 1 b n)) (V := (VF b n)) ej25; exact (rC_1 (by (have z_ := unhid u3_; omega)) (by (have z_ := unhid u3_; omega))).trans (by unfold rC1; rw [y_]))
        clear cr0 cb0 cd0 cv0 ck0
        have cr30 := hid (CUR_R hc26 (.inr rfl))
        have cd31 := CUR_d (hc26)
        have cb31 := hid (CUR_b hc26)
        have cv32 := hid (CUR_v hc26)
        have ck33 := hid (KZ_lt (i := j24) hz)
        have c134 := (hc26).1
        have ci35 := hi28
        clear h7_5 h7_6 h7_7 h7_8 h7_9 h7_10
        have r36 : (-2147483648) ≤ dt8 79 14 ∧ dt8 79 14 ≤ 2147483647 := InvC_get hI9 79 14 rfl rfl
        have u4_ := hid (And.intro (unhid c5) (And.intro (unhid c6) (And.intro (unhid cr30) (And.intro (unhid cb31) (And.intro (unhid cv32) (unhid ck33))))))
        refine go_ifq PM170 (k := 4) (p1 := 116) (p2 := 111) (L' := [some (.inr (.inr (some 79))), none]) (st' := []) (w' := (SH, dt8)) rfl (c_ne (a := dt8 79 14) (b := 160) (by first | exact bnd r36 (by decide) (by decide) | exact ⟨by fail, by fail⟩) ⟨by decide, by decide⟩) (fun c37 => ?_) (fun c37 => ?_)
        · skip
          replace c37 := hid c37
          have u5_ := hid (And.intro (unhid c5) (And.intro (unhid c6) (And.intro (unhid cr30) (And.intro (unhid cb31) (And.intro (unhid cv32) (And.intro (unhid ck33) (unhid c37)))))))
          refine go_ifq PM170 (k := 3) (p1 := 131) (p2 := 126) (L' := [some (.inr (.inr (some 79))), none]) (st' := []) (w' := (SH, dt8)) rfl (c_ne (a := dt8 79 14) (b := 161) (by first | exact bnd r36 (by decide) (by decide) | exact ⟨by fail, by fail⟩) ⟨by decide, by decide⟩) (fun c38 => ?_) (fun c38 => ?_)
          · skip
            replace c38 := hid c38
            have u6_ := hid (And.intro (unhid c5) (And.intro (unhid c6) (And.intro (unhid cr30) (And.intro (unhid cb31) (And.intro (unhid cv32) (And.intro (unhid ck33) (And.intro (unhid c37) (unhid c38))))))))
            refine go_ifq PM170 (k := 3) (p1 := 146) (p2 := 141) (L' := [some (.inr (.inr (some 79))), none]) (st' := []) (w' := (SH, dt8)) rfl (c_ne (a := dt8 79 14) (b := 162) (by first | exact bnd r36 (by decide) (by decide) | exact ⟨by fail, by fail⟩) ⟨by decide, by decide⟩) (fun c39 => ?_) (fun c39 => ?_)
            · skip
              replace c39 := hid c39
              refine go_toq PM170 (k := 7) (pc' := 155) (L' := [some (.inr (.inr (some 79))), some (.inl (-1))]) (st' := [.inl 1, .inr (.inr (some 79))]) (w' := (SH, dt8)) rfl ?_
              refine go_callq PM170 PM160 (Q' := _) rfl rfl rfl rfl (sp_X6_bad_g L xs sio (d + 9) dt8 hI9  1 ⟨by decide, by decide⟩ ) ?_
              rintro _ _ ⟨dt41, rfl, hI42, hF43, h40⟩
              refine ⟨rfl, ?_⟩
              have hF44 : Fr [79, 84] dt dt41 := Fr_tr hF11 hF43 (by decide)
              rcases h40 with ⟨rfl, h40⟩
              obtain ⟨h40_0, h40_1, h40_2, h40_3, h40_4, h40_5, h40_6, h40_7, h40_8, h40_9, h40_10, h40_11⟩ := h40
              have w45 : dt41 79 2 = dt 79 2 := h40_2.trans w18
              have w46 : dt41 79 9 = dt 79 9 := h40_3.trans w19
              have w47 : dt41 79 10 = dt 79 10 := h40_4.trans w20
              have w48 : dt41 79 11 = dt8 79 11 := h40_5
              have w49 : dt41 79 12 = dt 79 12 := h40_6.trans w21
              have w50 : dt41 79 13 = dt8 79 13 := h40_7
              have w51 : dt41 79 14 = dt8 79 14 := h40_8
              have w52 : dt41 79 15 = dt8 79 15 := h40_9
              have w53 : dt41 79 16 = dt8 79 16 := h40_10
              have w54 : dt41 79 20 = dt 79 20 := h40_11.trans w23
              have u8_ := hid (And.intro (unhid c5) (And.intro (unhid c6) (And.intro (unhid cr30) (And.intro (unhid cb31) (And.intro (unhid cv32) (And.intro (unhid ck33) (And.intro (unhid c37) (And.intro (unhid c38) (unhid c39)))))))))
              have hc55 : CUR 1 b n dt41 j24 := CUR_sm hc26 (by first | with_reducible assumption | exact unhid (by with_reducible assumption) | rfl | fail) (by first | with_reducible assumption | exact unhid (by with_reducible assumption) | rfl | fail) (by first | with_reducible assumption | exact unhid (by with_reducible assumption) | rfl | fail) (by first | with_reducible assumption | exact unhid (by with_reducible assumption) | rfl | fail)
              clear h40_2 w18 h40_3 w19 h40_4 h40_5 h40_6 w21 h40_7 h40_8 h40_9 h40_10 h40_11 w23
              refine go_retq PM170 (k := 0) (r := some (.inl 0)) (w1 := (SH, dt41)) rfl ?_
              exact ⟨dt41, rfl, hI42, hF44, (Or.inl ⟨rfl, ⟨by first | exact RSX_f hI hI (by first | rfl | with_reducible assumption | exact unhid (by with_reducible assumption) | fail) (by first | rfl | with_reducible assumption | exact unhid (by with_reducible assumption) | fail) | exact RSX_no (k := 1) (j := j24) (hp27.trans (by show gR1 _ _ _ = _; unfold gR1; rw [if_neg (by (have z_ := unhid u8_; omega))])) (by decide) (by omega) (by show _ = ((TP b n j24 : Nat) : Int); omega), by first | exact True.intro | with_reducible assumption | exact unhid (by with_reducible assumption) | rfl | fail | trivial, by first | exact True.intro | with_reducible assumption | exact unhid (by with_reducible assumption) | rfl | fail | trivial, by first | exact True.intro | with_reducible assumption | exact unhid (by with_reducible assumption) | rfl | fail | trivial, by first | exact True.intro | with_reducible assumption | exact unhid (by with_reducible assumption) | rfl | fail | trivial⟩⟩)⟩
            · skip
              refine go_toq PM170 (k := 7) (pc' := 160) (L' := [some (.inr (.inr (some 79))), some (.inl 13)]) (st' := [.inr (.inr (some 79))]) (w' := (SH, dt8)) rfl ?_
              refine go_callq PM170 PM159 (Q' := _) rfl rfl rfl rfl (sp_X6_next0_p1 L xs sio (d + 3) dt8 hI9   (by first | exact True.intro | with_reducible assumption | exact unhid (by with_reducible assumption) | rfl | omega | trivial) (by first | exact True.intro | with_reducible assumption | exact unhid (by with_reducible assumption) | rfl | omega | trivial)) ?_
              rintro _ _ ⟨dt57, rfl, hI58, hF59, h56⟩
              refine ⟨rfl, ?_⟩
              have hF60 : Fr [79, 84] dt dt57 := Fr_tr hF11 hF59 (by decide)
              rcases h56 with ⟨rfl, h56⟩
              obtain ⟨h56_0, h56_1, h56_2, h56_3, h56_4, h56_5, h56_6, h56_7, h56_8⟩ := h56
              have w61 : dt57 79 2 = dt 79 2 := h56_2.trans w18
              have w62 : dt57 79 9 = dt 79 9 := h56_3.trans w19
              have w63 : dt57 79 10 = dt 79 10 := h56_4.trans w20
              have w64 : dt57 79 11 = dt8 79 11 := h56_5
              have w65 : dt57 79 12 = dt 79 12 := h56_6.trans w21
              have w66 : dt57 79 17 = dt 79 17 := h56_7.trans w22
              have w67 : dt57 79 20 = dt 79 20 := h56_8.trans w23
              have hq68 := h56_0
              rw [show dt8 85 = dt 85 from funext (hF11 85 (by decide)), show dt8 79 12 = dt 79 12 by first | with_reducible assumption | exact unhid (by with_reducible assumption) | fail, hbb, show (dt 79 12).toNat = n from (congrArg Int.toNat hnn).trans (Int.toNat_natCast n)] at hq68
              have hc69 : CUR 1 b n dt57 (j24 + 1) := CUR_n hc26 hq68
              have hi70 : j24 + 1 ≤ t := by (have z_ := unhid u6_; omega)
              have av71 : dt8 79 15 + 1 ≤ dt8 79 13 := by (have z_ := unhid u6_; omega)
              have kk_72 : KF 1 b n j24 = 62 := by (have z_ := unhid u6_; omega)
              have hp73 : (gC (KF 1 b n) (VF b n) 0) i = (gE (KF 1 b n) (VF b n)) (j24 + 1) := hp27.trans (by show gR1 _ _ j24 = _; unfold gR1; rw [if_pos (by (have z_ := unhid u6_; omega))])
              clear cr30 cb31 cd31 cv32 ck33
              have cr74 := hid (CUR_R hc69 (.inr rfl))
              have cd75 := CUR_d (hc69)
              have cb75 := hid (CUR_b hc69)
              have cv76 := hid (CUR_v hc69)
              have ck77 := hid (KZ_lt (i := (j24 + 1)) hz)
              have c178 := (hc69).1
              have ci79 := hi70
              clear h56_2 w18 h56_3 w19 h56_4 h56_5 h56_6 w21 h56_7 w22 h56_8 w23
              refine go_toq PM170 (k := 1) (pc' := 164) (L' := [some (.inr (.inr (some 79))), some (.inl 13)]) (st' := [.inr (.inr (some 79))]) (w' := (SH, dt57)) rfl ?_
              refine go_callq PM170 PM165 (Q' := _) rfl rfl rfl rfl (sp_X6_sumUp_g L xs sio (d + 0) dt57 hI58 b n t (j24 + 1) (by first | exact hbb | (rw [show dt57 85 = dt 85 from funext (hF60 85 (by decide)), show dt57 79 12 = dt 79 12 by first | with_reducible assumption | exact unhid (by with_reducible assumption) | fail]; exact hbb)) (by first | with_reducible assumption | exact unhid (by with_reducible assumption) | exact Eq.trans (by with_reducible assumption) hnn | fail) hz ht hc69 hi70 hn5  (by first | exact True.intro | with_reducible assumption | exact unhid (by with_reducible assumption) | rfl | omega | trivial) (by first | exact True.intro | with_reducible assumption | exact unhid (by with_reducible assumption) | rfl | omega | trivial)) ?_
              rintro _ _ ⟨dt81, rfl, hI82, hF83, h80⟩
              refine ⟨rfl, ?_⟩
              have hF84 : Fr [79, 84] dt dt81 := Fr_tr hF60 hF83 (by decide)
              rcases h80 with ⟨rfl, h80⟩ | ⟨rfl, h80⟩
              · skip
                obtain ⟨h80_0, h80_1, h80_2, h80_3, h80_4⟩ := h80
                have w85 : dt81 79 2 = dt 79 2 := h80_1.trans w61
                have w86 : dt81 79 9 = dt 79 9 := h80_2.trans w62
                have w87 : dt81 79 10 = dt 79 10 := h80_3.trans w63
                have w88 : dt81 79 12 = dt 79 12 := h80_4.trans w65
                have fl89 := RSX_0 h80_0 rfl
                have fe90 : (gC (KF 1 b n) (VF b n) 0) i = (gE (KF 1 b n) (VF b n)) (j24 + 1) := hp73.trans ((show (gE (KF 1 b n) (VF b n)) (j24 + 1) = gB ((gE (KF 1 b n) (VF b n)) (j24 + 1)) gOk by exact gB_id.symm).trans (gB_no fl89.1))
                clear h80_1 w61 h80_2 w62 h80_3 h80_4 w65
                refine go_retq PM170 (k := 2) (r := some (.inl 0)) (w1 := (SH, dt81)) rfl ?_
                exact ⟨dt81, rfl, hI82, hF84, (Or.inl ⟨rfl, ⟨by first | exact RSX_f fe90 fl89 (by first | rfl | with_reducible assumption | exact unhid (by with_reducible assumption) | fail) (by first | rfl | with_reducible assumption | exact unhid (by with_reducible assumption) | fail) | exact RSX_no (k := 1) (j := (j24 + 1)) (hp73.trans (by show gR1 _ _ _ = _; unfold gR1; rw [if_neg (by fail)])) (by decide) (by fail) (by show _ = ((TP b n (j24 + 1) : Nat) : Int); fail), by first | exact True.intro | with_reducible assumption | exact unhid (by with_reducible assumption) | rfl | fail | trivial, by first | exact True.intro | with_reducible assumption | exact unhid (by with_reducible assumption) | rfl | fail | trivial, by first | exact True.intro | with_reducible assumption | exact unhid (by with_reducible assumption) | rfl | fail | trivial, by first | exact True.intro | with_reducible assumption | exact unhid (by with_reducible assumption) | rfl | fail | trivial⟩⟩)⟩
              · skip
                obtain ⟨h80_0, h80_1, h80_2, h80_3, h80_4, h80_5, h80_6, h80_7, h80_8, h80_9, h80_10⟩ := h80
                have w91 : dt81 79 2 = dt 79 2 := h80_5.trans w61
                have w92 : dt81 79 9 = dt 79 9 := h80_6.trans w62
                have w93 : dt81 79 10 = dt 79 10 := h80_7.trans w63
                have w94 : dt81 79 12 = dt 79 12 := h80_8.trans w65
                have w95 : dt81 79 17 = dt 79 17 := h80_9.trans w66
                have w96 : dt81 79 20 = dt 79 20 := h80_10.trans w67
                obtain ⟨j97, ej98, hc99⟩ := RSX_1 h80_0 (by decide)
                have hp100 : (gC (KF 1 b n) (VF b n) 0) i = gOk j97 := hp73.trans ((show (gE (KF 1 b n) (VF b n)) (j24 + 1) = gB ((gE (KF 1 b n) (VF b n)) (j24 + 1)) gOk by exact gB_id.symm).trans (by rw [ej98]; exact gB_0))
                have hi101 : j97 ≤ t := by have z := gE_M (K := (KF 1 b n)) (V := (VF b n)) (i := (j24 + 1)) hz; rw [ej98] at z; have y := z rfl; simp only at y; omega
                have Q102 : RQ (rC (KF 1 b n) (VF b n) 0) (fun _ => [opc ((KF 1 b n) j24)]) dt dt81 i j97 := RQ_st Q29 (by omega) (RXD_l (by omega) (fun j => hF59 84 (by decide) j) h80_4) (by rfl)
                clear cr74 cb75 cd75 cv76 ck77
                have cr103 := hid (CUR_R hc99 (.inr rfl))
                have cd104 := CUR_d (hc99)
                have cb104 := hid (CUR_b hc99)
                have cv105 := hid (CUR_v hc99)
                have ck106 := hid (KZ_lt (i := j97) hz)
                have c1107 := (hc99).1
                have ci108 := hi101
                clear h80_5 w61 h80_6 w62 h80_7 h80_8 w65 h80_9 w66 h80_10 w67
                refine go_toq PM170 (k := 4) (pc' := 175) (L' := [some (.inr (.inr (some 79))), some (.inl 13)]) (st' := [.inl 0, .inl 13, .inr (.inr (some 79))]) (w' := (SH, dt81)) rfl ?_
                refine go_callq PM170 PM163 (Q' := _) rfl rfl rfl rfl (sp_X6_lay_g L xs sio (d + 9) dt81 hI82  13 ⟨by decide, by decide⟩ 0 ⟨by decide, by decide⟩ (by first | exact True.intro | with_reducible assumption | exact unhid (by with_reducible assumption) | rfl | omega | trivial) (by first | exact True.intro | with_reducible assumption | exact unhid (by with_reducible assumption) | rfl | omega | trivial)) ?_
                rintro _ _ ⟨dt110, rfl, hI111, hF112, h109⟩
                refine ⟨rfl, ?_⟩
                have hF113 : Fr [79, 84] dt dt110 := Fr_tr hF84 hF112 (by decide)
                rcases h109 with ⟨rfl, h109⟩
                obtain ⟨h109_0, h109_1, h109_2, h109_3, h109_4, h109_5, h109_6, h109_7, h109_8, h109_9, h109_10, h109_11⟩ := h109
                have w114 : dt110 79 2 = dt 79 2 := h109_2.trans w91
                have w115 : dt110 79 9 = dt 79 9 := h109_3.trans w92
                have w116 : dt110 79 10 = dt 79 10 := h109_4.trans w93
                have w117 : dt110 79 12 = dt 79 12 := h109_5.trans w94
                have w118 : dt110 79 13 = dt81 79 13 := h109_6
                have w119 : dt110 79 14 = dt81 79 14 := h109_7
                have w120 : dt110 79 15 = dt81 79 15 := h109_8
                have w121 : dt110 79 16 = dt81 79 16 := h109_9
                have w122 : dt110 79 17 = dt 79 17 := h109_10.trans w95
                have w123 : dt110 79 20 = dt 79 20 := h109_11.trans w96
                have Q124 : RQ (rC (KF 1 b n) (VF b n) 0) eNl dt dt110 i j97 := RQ_st Q102 (by omega) h109_1 (by show [opc ((KF 1 b n) j24)] = stx 13 0 ++ []; unfold opc; first | (rw [if_pos (by fail)]; rfl) | (rw [if_neg (by omega), if_pos (by fail)]; rfl) | (rw [if_neg (by omega), if_neg (by omega)]; rfl))
                have hc125 : CUR 1 b n dt110 j97 := CUR_sm hc99 (by first | with_reducible assumption | exact unhid (by with_reducible assumption) | rfl | fail) (by first | with_reducible assumption | exact unhid (by with_reducible assumption) | rfl | fail) (by first | with_reducible assumption | exact unhid (by with_reducible assumption) | rfl | fail) (by first | with_reducible assumption | exact unhid (by with_reducible assumption) | rfl | fail)
                clear h109_2 w91 h109_3 w92 h109_4 h109_5 w94 h109_6 h109_7 h109_8 h109_9 h109_10 w95 h109_11 w96
                refine go_retq PM170 (k := 1) (r := some (.inl 1)) (w1 := (SH, dt110)) rfl ?_
                exact ⟨dt110, rfl, hI111, hF113, (Or.inr ⟨rfl, ⟨by exact RSX_ok (hp100.trans (by rfl)) hc125, by first | exact True.intro | with_reducible assumption | exact unhid (by with_reducible assumption) | rfl | omega | trivial, by first | exact True.intro | with_reducible assumption | exact unhid (by with_reducible assumption) | rfl | omega | trivial, by exact (InvC_get (by assumption) 79 15 rfl rfl).2, by exact RQ_e Q124, by first | exact True.intro | with_reducible assumption | exact unhid (by with_reducible assumption) | rfl | fail | trivial, by first | exact True.intro | with_reducible assumption | exact unhid (by with_reducible assumption) | rfl | fail | trivial, by first | exact True.intro | with_reducible assumption | exact unhid (by with_reducible assumption) | rfl | fail | trivial, by first | exact True.intro | with_reducible assumption | exact unhid (by with_reducible assumption) | rfl | fail | trivial, by first | exact True.intro | with_reducible assumption | exact unhid (by with_reducible assumption) | rfl | fail | trivial, by first | exact True.intro | with_reducible assumption | exact unhid (by with_reducible assumption) | rfl | fail | trivial⟩⟩)⟩
          · skip
            refine go_toq PM170 (k := 7) (pc' := 160) (L' := [some (.inr (.inr (some 79))), some (.inl 12)]) (st' := [.inr (.inr (some 79))]) (w' := (SH, dt8)) rfl ?_
            refine go_callq PM170 PM159 (Q' := _) rfl rfl rfl rfl (sp_X6_next0_p1 L xs sio (d + 3) dt8 hI9   (by first | exact True.intro | with_reducible assumption | exact unhid (by with_reducible assumption) | rfl | omega | trivial) (by first | exact True.intro | with_reducible assumption | exact unhid (by with_reducible assumption) | rfl | omega | trivial)) ?_
            rintro _ _ ⟨dt127, rfl, hI128, hF129, h126⟩
            refine ⟨rfl, ?_⟩
            have hF130 : Fr [79, 84] dt dt127 := Fr_tr hF11 hF129 (by decide)
            rcases h126 with ⟨rfl, h126⟩
            obtain ⟨h126_0, h126_1, h126_2, h126_3, h126_4, h126_5, h126_6, h126_7, h126_8⟩ := h126
            have w131 : dt127 79 2 = dt 79 2 := h126_2.trans w18
            have w132 : dt127 79 9 = dt 79 9 := h126_3.trans w19
            have w133 : dt127 79 10 = dt 79 10 := h126_4.trans w20
            have w134 : dt127 79 11 = dt8 79 11 := h126_5
            have w135 : dt127 79 12 = dt 79 12 := h126_6.trans w21
            have w136 : dt127 79 17 = dt 79 17 := h126_7.trans w22
            have w137 : dt127 79 20 = dt 79 20 := h126_8.trans w23
            have hq138 := h126_0
            rw [show dt8 85 = dt 85 from funext (hF11 85 (by decide)), show dt8 79 12 = dt 79 12 by first | with_reducible assumption | exact unhid (by with_reducible assumption) | fail, hbb, show (dt 79 12).toNat = n from (congrArg Int.toNat hnn).trans (Int.toNat_natCast n)] at hq138
            have hc139 : CUR 1 b n dt127 (j24 + 1) := CUR_n hc26 hq138
            have hi140 : j24 + 1 ≤ t := by (have z_ := unhid u5_; omega)
            have av141 : dt8 79 15 + 1 ≤ dt8 79 13 := by (have z_ := unhid u5_; omega)
            have kk_142 : KF 1 b n j24 = 61 := by (have z_ := unhid u5_; omega)
            have hp143 : (gC (KF 1 b n) (VF b n) 0) i = (gE (KF 1 b n) (VF b n)) (j24 + 1) := hp27.trans (by show gR1 _ _ j24 = _; unfold gR1; rw [if_pos (by (have z_ := unhid u5_; omega))])
            clear cr30 cb31 cd31 cv32 ck33
            have cr144 := hid (CUR_R hc139 (.inr rfl))
            have cd145 := CUR_d (hc139)
            have cb145 := hid (CUR_b hc139)
            have cv146 := hid (CUR_v hc139)
            have ck147 := hid (KZ_lt (i := (j24 + 1)) hz)
            have c1148 := (hc139).1
            have ci149 := hi140
            clear h126_2 w18 h126_3 w19 h126_4 h126_5 h126_6 w21 h126_7 w22 h126_8 w23
            refine go_toq PM170 (k := 1) (pc' := 164) (L' := [some (.inr (.inr (some 79))), some (.inl 12)]) (st' := [.inr (.inr (some 79))]) (w' := (SH, dt127)) rfl ?_
            refine go_callq PM170 PM165 (Q' := _) rfl rfl rfl rfl (sp_X6_sumUp_g L xs sio (d + 0) dt127 hI128 b n t (j24 + 1) (by first | exact hbb | (rw [show dt127 85 = dt 85 from funext (hF130 85 (by decide)), show dt127 79 12 = dt 79 12 by first | with_reducible assumption | exact unhid (by with_reducible assumption) | fail]; exact hbb)) (by first | with_reducible assumption | exact unhid (by with_reducible assumption) | exact Eq.trans (by with_reducible assumption) hnn | fail) hz ht hc139 hi140 hn5  (by first | exact True.intro | with_reducible assumption | exact unhid (by with_reducible assumption) | rfl | omega | trivial) (by first | exact True.intro | with_reducible assumption | exact unhid (by with_reducible assumption) | rfl | omega | trivial)) ?_
            rintro _ _ ⟨dt151, rfl, hI152, hF153, h150⟩
            refine ⟨rfl, ?_⟩
            have hF154 : Fr [79, 84] dt dt151 := Fr_tr hF130 hF153 (by decide)
            rcases h150 with ⟨rfl, h150⟩ | ⟨rfl, h150⟩
            · skip
              obtain ⟨h150_0, h150_1, h150_2, h150_3, h150_4⟩ := h150
              have w155 : dt151 79 2 = dt 79 2 := h150_1.trans w131
              have w156 : dt151 79 9 = dt 79 9 := h150_2.trans w132
              have w157 : dt151 79 10 = dt 79 10 := h150_3.trans w133
              have w158 : dt151 79 12 = dt 79 12 := h150_4.trans w135
              have fl159 := RSX_0 h150_0 rfl
              have fe160 : (gC (KF 1 b n) (VF b n) 0) i = (gE (KF 1 b n) (VF b n)) (j24 + 1) := hp143.trans ((show (gE (KF 1 b n) (VF b n)) (j24 + 1) = gB ((gE (KF 1 b n) (VF b n)) (j24 + 1)) gOk by exact gB_id.symm).trans (gB_no fl159.1))
              clear h150_1 w131 h150_2 w132 h150_3 h150_4 w135
              refine go_retq PM170 (k := 2) (r := some (.inl 0)) (w1 := (SH, dt151)) rfl ?_
              exact ⟨dt151, rfl, hI152, hF154, (Or.inl ⟨rfl, ⟨by first | exact RSX_f fe160 fl159 (by first | rfl | with_reducible assumption | exact unhid (by with_reducible assumption) | fail) (by first | rfl | with_reducible assumption | exact unhid (by with_reducible assumption) | fail) | exact RSX_no (k := 1) (j := (j24 + 1)) (hp143.trans (by show gR1 _ _ _ = _; unfold gR1; rw [if_neg (by fail)])) (by decide) (by fail) (by show _ = ((TP b n (j24 + 1) : Nat) : Int); fail), by first | exact True.intro | with_reducible assumption | exact unhid (by with_reducible assumption) | rfl | fail | trivial, by first | exact True.intro | with_reducible assumption | exact unhid (by with_reducible assumption) | rfl | fail | trivial, by first | exact True.intro | with_reducible assumption | exact unhid (by with_reducible assumption) | rfl | fail | trivial, by first | exact True.intro | with_reducible assumption | exact unhid (by with_reducible assumption) | rfl | fail | trivial⟩⟩)⟩
            · skip
              obtain ⟨h150_0, h150_1, h150_2, h150_3, h150_4, h150_5, h150_6, h150_7, h150_8, h150_9, h150_10⟩ := h150
              have w161 : dt151 79 2 = dt 79 2 := h150_5.trans w131
              have w162 : dt151 79 9 = dt 79 9 := h150_6.trans w132
              have w163 : dt151 79 10 = dt 79 10 := h150_7.trans w133
              have w164 : dt151 79 12 = dt 79 12 := h150_8.trans w135
              have w165 : dt151 79 17 = dt 79 17 := h150_9.trans w136
              have w166 : dt151 79 20 = dt 79 20 := h150_10.trans w137
              obtain ⟨j167, ej168, hc169⟩ := RSX_1 h150_0 (by decide)
              have hp170 : (gC (KF 1 b n) (VF b n) 0) i = gOk j167 := hp143.trans ((show (gE (KF 1 b n) (VF b n)) (j24 + 1) = gB ((gE (KF 1 b n) (VF b n)) (j24 + 1)) gOk by exact gB_id.symm).trans (by rw [ej168]; exact gB_0))
              have hi171 : j167 ≤ t := by have z := gE_M (K := (KF 1 b n)) (V := (VF b n)) (i := (j24 + 1)) hz; rw [ej168] at z; have y := z rfl; simp only at y; omega
              have Q172 : RQ (rC (KF 1 b n) (VF b n) 0) (fun _ => [opc ((KF 1 b n) j24)]) dt dt151 i j167 := RQ_st Q29 (by omega) (RXD_l (by omega) (fun j => hF129 84 (by decide) j) h150_4) (by rfl)
              clear cr144 cb145 cd145 cv146 ck147
              have cr173 := hid (CUR_R hc169 (.inr rfl))
              have cd174 := CUR_d (hc169)
              have cb174 := hid (CUR_b hc169)
              have cv175 := hid (CUR_v hc169)
              have ck176 := hid (KZ_lt (i := j167) hz)
              have c1177 := (hc169).1
              have ci178 := hi171
              clear h150_5 w131 h150_6 w132 h150_7 h150_8 w135 h150_9 w136 h150_10 w137
              refine go_toq PM170 (k := 4) (pc' := 175) (L' := [some (.inr (.inr (some 79))), some (.inl 12)]) (st' := [.inl 0, .inl 12, .inr (.inr (some 79))]) (w' := (SH, dt151)) rfl ?_
              refine go_callq PM170 PM163 (Q' := _) rfl rfl rfl rfl (sp_X6_lay_g L xs sio (d + 9) dt151 hI152  12 ⟨by decide, by decide⟩ 0 ⟨by decide, by decide⟩ (by first | exact True.intro | with_reducible assumption | exact unhid (by with_reducible assumption) | rfl | omega | trivial) (by first | exact True.intro | with_reducible assumption | exact unhid (by with_reducible assumption) | rfl | omega | trivial)) ?_
              rintro _ _ ⟨dt180, rfl, hI181, hF182, h179⟩
              refine ⟨rfl, ?_⟩
              have hF183 : Fr [79, 84] dt dt180 := Fr_tr hF154 hF182 (by decide)
              rcases h179 with ⟨rfl, h179⟩
              obtain ⟨h179_0, h179_1, h179_2, h179_3, h179_4, h179_5, h179_6, h179_7, h179_8, h179_9, h179_10, h179_11⟩ := h179
              have w184 : dt180 79 2 = dt 79 2 := h179_2.trans w161
              have w185 : dt180 79 9 = dt 79 9 := h179_3.trans w162
              have w186 : dt180 79 10 = dt 79 10 := h179_4.trans w163
              have w187 : dt180 79 12 = dt 79 12 := h179_5.trans w164
              have w188 : dt180 79 13 = dt151 79 13 := h179_6
              have w189 : dt180 79 14 = dt151 79 14 := h179_7
              have w190 : dt180 79 15 = dt151 79 15 := h179_8
              have w191 : dt180 79 16 = dt151 79 16 := h179_9
              have w192 : dt180 79 17 = dt 79 17 := h179_10.trans w165
              have w193 : dt180 79 20 = dt 79 20 := h179_11.trans w166
              have Q194 : RQ (rC (KF 1 b n) (VF b n) 0) eNl dt dt180 i j167 := RQ_st Q172 (by omega) h179_1 (by show [opc ((KF 1 b n) j24)] = stx 12 0 ++ []; unfold opc; first | (rw [if_pos (by fail)]; rfl) | (rw [if_neg (by omega), if_pos (by omega)]; rfl) | (rw [if_neg (by fail), if_neg (by fail)]; rfl))
              have hc195 : CUR 1 b n dt180 j167 := CUR_sm hc169 (by first | with_reducible assumption | exact unhid (by with_reducible assumption) | rfl | fail) (by first | with_reducible assumption | exact unhid (by with_reducible assumption) | rfl | fail) (by first | with_reducible assumption | exact unhid (by with_reducible assumption) | rfl | fail) (by first | with_reducible assumption | exact unhid (by with_reducible assumption) | rfl | fail)
              clear h179_2 w161 h179_3 w162 h179_4 h179_5 w164 h179_6 h179_7 h179_8 h179_9 h179_10 w165 h179_11 w166
              refine go_retq PM170 (k := 1) (r := some (.inl 1)) (w1 := (SH, dt180)) rfl ?_
              exact ⟨dt180, rfl, hI181, hF183, (Or.inr ⟨rfl, ⟨by exact RSX_ok (hp170.trans (by rfl)) hc195, by first | exact True.intro | with_reducible assumption | exact unhid (by with_reducible assumption) | rfl | omega | trivial, by first | exact True.intro | with_reducible assumption | exact unhid (by with_reducible assumption) | rfl | omega | trivial, by exact (InvC_get (by assumption) 79 15 rfl rfl).2, by exact RQ_e Q194, by first | exact True.intro | with_reducible assumption | exact unhid (by with_reducible assumption) | rfl | fail | trivial, by first | exact True.intro | with_reducible assumption | exact unhid (by with_reducible assumption) | rfl | fail | trivial, by first | exact True.intro | with_reducible assumption | exact unhid (by with_reducible assumption) | rfl | fail | trivial, by first | exact True.intro | with_reducible assumption | exact unhid (by with_reducible assumption) | rfl | fail | trivial, by first | exact True.intro | with_reducible assumption | exact unhid (by with_reducible assumption) | rfl | fail | trivial, by first | exact True.intro | with_reducible assumption | exact unhid (by with_reducible assumption) | rfl | fail | trivial⟩⟩)⟩
        · skip
          refine go_toq PM170 (k := 7) (pc' := 160) (L' := [some (.inr (.inr (some 79))), some (.inl 11)]) (st' := [.inr (.inr (some 79))]) (w' := (SH, dt8)) rfl ?_
          refine go_callq PM170 PM159 (Q' := _) rfl rfl rfl rfl (sp_X6_next0_p1 L xs sio (d + 3) dt8 hI9   (by first | exact True.intro | with_reducible assumption | exact unhid (by with_reducible assumption) | rfl | omega | trivial) (by first | exact True.intro | with_reducible assumption | exact unhid (by with_reducible assumption) | rfl | omega | trivial)) ?_
          rintro _ _ ⟨dt197, rfl, hI198, hF199, h196⟩
          refine ⟨rfl, ?_⟩
          have hF200 : Fr [79, 84] dt dt197 := Fr_tr hF11 hF199 (by decide)
          rcases h196 with ⟨rfl, h196⟩
          obtain ⟨h196_0, h196_1, h196_2, h196_3, h196_4, h196_5, h196_6, h196_7, h196_8⟩ := h196
          have w201 : dt197 79 2 = dt 79 2 := h196_2.trans w18
          have w202 : dt197 79 9 = dt 79 9 := h196_3.trans w19
          have w203 : dt197 79 10 = dt 79 10 := h196_4.trans w20
          have w204 : dt197 79 11 = dt8 79 11 := h196_5
          have w205 : dt197 79 12 = dt 79 12 := h196_6.trans w21
          have w206 : dt197 79 17 = dt 79 17 := h196_7.trans w22
          have w207 : dt197 79 20 = dt 79 20 := h196_8.trans w23
          have hq208 := h196_0
          rw [show dt8 85 = dt 85 from funext (hF11 85 (by decide)), show dt8 79 12 = dt 79 12 by first | with_reducible assumption | exact unhid (by with_reducible assumption) | fail, hbb, show (dt 79 12).toNat = n from (congrArg Int.toNat hnn).trans (Int.toNat_natCast n)] at hq208
          have hc209 : CUR 1 b n dt197 (j24 + 1) := CUR_n hc26 hq208
          have hi210 : j24 + 1 ≤ t := by (have z_ := unhid u4_; omega)
          have av211 : dt8 79 15 + 1 ≤ dt8 79 13 := by (have z_ := unhid u4_; omega)
          have kk_212 : KF 1 b n j24 = 60 := by (have z_ := unhid u4_; omega)
          have hp213 : (gC (KF 1 b n) (VF b n) 0) i = (gE (KF 1 b n) (VF b n)) (j24 + 1) := hp27.trans (by show gR1 _ _ j24 = _; unfold gR1; rw [if_pos (by (have z_ := unhid u4_; omega))])
          clear cr30 cb31 cd31 cv32 ck33
          have cr214 := hid (CUR_R hc209 (.inr rfl))
          have cd215 := CUR_d (hc209)
          have cb215 := hid (CUR_b hc209)
          have cv216 := hid (CUR_v hc209)
          have ck217 := hid (KZ_lt (i := (j24 + 1)) hz)
          have c1218 := (hc209).1
          have ci219 := hi210
          clear h196_2 w18 h196_3 w19 h196_4 h196_5 h196_6 w21 h196_7 w22 h196_8 w23
          refine go_toq PM170 (k := 1) (pc' := 164) (L' := [some (.inr (.inr (some 79))), some (.inl 11)]) (st' := [.inr (.inr (some 79))]) (w' := (SH, dt197)) rfl ?_
          refine go_callq PM170 PM165 (Q' := _) rfl rfl rfl rfl (sp_X6_sumUp_g L xs sio (d + 0) dt197 hI198 b n t (j24 + 1) (by first | exact hbb | (rw [show dt197 85 = dt 85 from funext (hF200 85 (by decide)), show dt197 79 12 = dt 79 12 by first | with_reducible assumption | exact unhid (by with_reducible assumption) | fail]; exact hbb)) (by first | with_reducible assumption | exact unhid (by with_reducible assumption) | exact Eq.trans (by with_reducible assumption) hnn | fail) hz ht hc209 hi210 hn5  (by first | exact True.intro | with_reducible assumption | exact unhid (by with_reducible assumption) | rfl | omega | trivial) (by first | exact True.intro | with_reducible assumption | exact unhid (by with_reducible assumption) | rfl | omega | trivial)) ?_
          rintro _ _ ⟨dt221, rfl, hI222, hF223, h220⟩
          refine ⟨rfl, ?_⟩
          have hF224 : Fr [79, 84] dt dt221 := Fr_tr hF200 hF223 (by decide)
          rcases h220 with ⟨rfl, h220⟩ | ⟨rfl, h220⟩
          · skip
            obtain ⟨h220_0, h220_1, h220_2, h220_3, h220_4⟩ := h220
            have w225 : dt221 79 2 = dt 79 2 := h220_1.trans w201
            have w226 : dt221 79 9 = dt 79 9 := h220_2.trans w202
            have w227 : dt221 79 10 = dt 79 10 := h220_3.trans w203
            have w228 : dt221 79 12 = dt 79 12 := h220_4.trans w205
            have fl229 := RSX_0 h220_0 rfl
            have fe230 : (gC (KF 1 b n) (VF b n) 0) i = (gE (KF 1 b n) (VF b n)) (j24 + 1) := hp213.trans ((show (gE (KF 1 b n) (VF b n)) (j24 + 1) = gB ((gE (KF 1 b n) (VF b n)) (j24 + 1)) gOk by exact gB_id.symm).trans (gB_no fl229.1))
            clear h220_1 w201 h220_2 w202 h220_3 h220_4 w205
            refine go_retq PM170 (k := 2) (r := some (.inl 0)) (w1 := (SH, dt221)) rfl ?_
            exact ⟨dt221, rfl, hI222, hF224, (Or.inl ⟨rfl, ⟨by first | exact RSX_f fe230 fl229 (by first | rfl | with_reducible assumption | exact unhid (by with_reducible assumption) | fail) (by first | rfl | with_reducible assumption | exact unhid (by with_reducible assumption) | fail) | exact RSX_no (k := 1) (j := (j24 + 1)) (hp213.trans (by show gR1 _ _ _ = _; unfold gR1; rw [if_neg (by fail)])) (by decide) (by fail) (by show _ = ((TP b n (j24 + 1) : Nat) : Int); fail), by first | exact True.intro | with_reducible assumption | exact unhid (by with_reducible assumption) | rfl | fail | trivial, by first | exact True.intro | with_reducible assumption | exact unhid (by with_reducible assumption) | rfl | fail | trivial, by first | exact True.intro | with_reducible assumption | exact unhid (by with_reducible assumption) | rfl | fail | trivial, by first | exact True.intro | with_reducible assumption | exact unhid (by with_reducible assumption) | rfl | fail | trivial⟩⟩)⟩
          · skip
            obtain ⟨h220_0, h220_1, h220_2, h220_3, h220_4, h220_5, h220_6, h220_7, h220_8, h220_9, h220_10⟩ := h220
            have w231 : dt221 79 2 = dt 79 2 := h220_5.trans w201
            have w232 : dt221 79 9 = dt 79 9 := h220_6.trans w202
            have w233 : dt221 79 10 = dt 79 10 := h220_7.trans w203
            have w234 : dt221 79 12 = dt 79 12 := h220_8.trans w205
            have w235 : dt221 79 17 = dt 79 17 := h220_9.trans w206
            have w236 : dt221 79 20 = dt 79 20 := h220_10.trans w207
            obtain ⟨j237, ej238, hc239⟩ := RSX_1 h220_0 (by decide)
            have hp240 : (gC (KF 1 b n) (VF b n) 0) i = gOk j237 := hp213.trans ((show (gE (KF 1 b n) (VF b n)) (j24 + 1) = gB ((gE (KF 1 b n) (VF b n)) (j24 + 1)) gOk by exact gB_id.symm).trans (by rw [ej238]; exact gB_0))
            have hi241 : j237 ≤ t := by have z := gE_M (K := (KF 1 b n)) (V := (VF b n)) (i := (j24 + 1)) hz; rw [ej238] at z; have y := z rfl; simp only at y; omega
            have Q242 : RQ (rC (KF 1 b n) (VF b n) 0) (fun _ => [opc ((KF 1 b n) j24)]) dt dt221 i j237 := RQ_st Q29 (by omega) (RXD_l (by omega) (fun j => hF199 84 (by decide) j) h220_4) (by rfl)
            clear cr214 cb215 cd215 cv216 ck217
            have cr243 := hid (CUR_R hc239 (.inr rfl))
            have cd244 := CUR_d (hc239)
            have cb244 := hid (CUR_b hc239)
            have cv245 := hid (CUR_v hc239)
            have ck246 := hid (KZ_lt (i := j237) hz)
            have c1247 := (hc239).1
            have ci248 := hi241
            clear h220_5 w201 h220_6 w202 h220_7 h220_8 w205 h220_9 w206 h220_10 w207
            refine go_toq PM170 (k := 4) (pc' := 175) (L' := [some (.inr (.inr (some 79))), some (.inl 11)]) (st' := [.inl 0, .inl 11, .inr (.inr (some 79))]) (w' := (SH, dt221)) rfl ?_
            refine go_callq PM170 PM163 (Q' := _) rfl rfl rfl rfl (sp_X6_lay_g L xs sio (d + 9) dt221 hI222  11 ⟨by decide, by decide⟩ 0 ⟨by decide, by decide⟩ (by first | exact True.intro | with_reducible assumption | exact unhid (by with_reducible assumption) | rfl | omega | trivial) (by first | exact True.intro | with_reducible assumption | exact unhid (by with_reducible assumption) | rfl | omega | trivial)) ?_
            rintro _ _ ⟨dt250, rfl, hI251, hF252, h249⟩
            refine ⟨rfl, ?_⟩
            have hF253 : Fr [79, 84] dt dt250 := Fr_tr hF224 hF252 (by decide)
            rcases h249 with ⟨rfl, h249⟩
            obtain ⟨h249_0, h249_1, h249_2, h249_3, h249_4, h249_5, h249_6, h249_7, h249_8, h249_9, h249_10, h249_11⟩ := h249
            have w254 : dt250 79 2 = dt 79 2 := h249_2.trans w231
            have w255 : dt250 79 9 = dt 79 9 := h249_3.trans w232
            have w256 : dt250 79 10 = dt 79 10 := h249_4.trans w233
            have w257 : dt250 79 12 = dt 79 12 := h249_5.trans w234
            have w258 : dt250 79 13 = dt221 79 13 := h249_6
            have w259 : dt250 79 14 = dt221 79 14 := h249_7
            have w260 : dt250 79 15 = dt221 79 15 := h249_8
            have w261 : dt250 79 16 = dt221 79 16 := h249_9
            have w262 : dt250 79 17 = dt 79 17 := h249_10.trans w235
            have w263 : dt250 79 20 = dt 79 20 := h249_11.trans w236
            have Q264 : RQ (rC (KF 1 b n) (VF b n) 0) eNl dt dt250 i j237 := RQ_st Q242 (by omega) h249_1 (by show [opc ((KF 1 b n) j24)] = stx 11 0 ++ []; unfold opc; first | (rw [if_pos (by omega)]; rfl) | (rw [if_neg (by fail), if_pos (by fail)]; rfl) | (rw [if_neg (by fail), if_neg (by fail)]; rfl))
            have hc265 : CUR 1 b n dt250 j237 := CUR_sm hc239 (by first | with_reducible assumption | exact unhid (by with_reducible assumption) | rfl | fail) (by first | with_reducible assumption | exact unhid (by with_reducible assumption) | rfl | fail) (by first | with_reducible assumption | exact unhid (by with_reducible assumption) | rfl | fail) (by first | with_reducible assumption | exact unhid (by with_reducible assumption) | rfl | fail)
            clear h249_2 w231 h249_3 w232 h249_4 h249_5 w234 h249_6 h249_7 h249_8 h249_9 h249_10 w235 h249_11 w236
            refine go_retq PM170 (k := 1) (r := some (.inl 1)) (w1 := (SH, dt250)) rfl ?_
            exact ⟨dt250, rfl, hI251, hF253, (Or.inr ⟨rfl, ⟨by exact RSX_ok (hp240.trans (by rfl)) hc265, by first | exact True.intro | with_reducible assumption | exact unhid (by with_reducible assumption) | rfl | omega | trivial, by first | exact True.intro | with_reducible assumption | exact unhid (by with_reducible assumption) | rfl | omega | trivial, by exact (InvC_get (by assumption) 79 15 rfl rfl).2, by exact RQ_e Q264, by first | exact True.intro | with_reducible assumption | exact unhid (by with_reducible assumption) | rfl | fail | trivial, by first | exact True.intro | with_reducible assumption | exact unhid (by with_reducible assumption) | rfl | fail | trivial, by first | exact True.intro | with_reducible assumption | exact unhid (by with_reducible assumption) | rfl | fail | trivial, by first | exact True.intro | with_reducible assumption | exact unhid (by with_reducible assumption) | rfl | fail | trivial, by first | exact True.intro | with_reducible assumption | exact unhid (by with_reducible assumption) | rfl | fail | trivial, by first | exact True.intro | with_reducible assumption | exact unhid (by with_reducible assumption) | rfl | fail | trivial⟩⟩)⟩
    · skip
      refine go_toq PM170 (k := 1) (pc' := 55) (L' := [some (.inr (.inr (some 79))), none]) (st' := [.inr (.inr (some 79))]) (w' := (SH, dt)) rfl ?_
      refine go_callq PM170 PM164 (Q' := _) rfl rfl rfl rfl (sp_X6_opens_x L xs sio (d + 2) dt hI b n t i (by first | exact hbb | (rw [show dt 85 = dt 85 from funext (hF 85 (by decide)), show dt 79 12 = dt 79 12 by first | with_reducible assumption | exact unhid (by with_reducible assumption) | fail]; exact hbb)) (by first | with_reducible assumption | exact unhid (by with_reducible assumption) | exact Eq.trans (by with_reducible assumption) hnn | fail) hz ht hc hi hn5  (by first | exact True.intro | with_reducible assumption | exact unhid (by with_reducible assumption) | rfl | fail | trivial) (by first | exact True.intro | with_reducible assumption | exact unhid (by with_reducible assumption) | rfl | omega | trivial) (by first | exact True.intro | with_reducible assumption | exact unhid (by with_reducible assumption) | rfl | fail | trivial)) ?_
      rintro _ _ ⟨dt267, rfl, hI268, hF269, h266⟩
      refine ⟨rfl, ?_⟩
      have hF270 : Fr [79, 84] dt dt267 := Fr_tr hF hF269 (by decide)
      rcases h266 with ⟨rfl, h266⟩
      obtain ⟨h266_0, h266_1, h266_2, h266_3, h266_4⟩ := h266
      have w271 : dt267 79 2 = dt 79 2 := h266_1
      have w272 : dt267 79 9 = dt 79 9 := h266_2
      have w273 : dt267 79 10 = dt 79 10 := h266_3
      have w274 : dt267 79 12 = dt 79 12 := h266_4
      have fl275 := RSX_0 h266_0 rfl
      have fe276 : (gC (KF 1 b n) (VF b n) 0) i = g3 i := (rfl : (gC (KF 1 b n) (VF b n) 0) i = (gC (KF 1 b n) (VF b n) 0) i).trans ((show (gC (KF 1 b n) (VF b n) 0) i = gB (g3 i) gOk by exact (gC_3 (by (have z_ := unhid cr0; omega))).trans (gB_no (by show ¬ ((3 : Int) = 0); decide)).symm).trans (gB_no fl275.1))
      clear h266_1 h266_2 h266_3 h266_4
      refine go_retq PM170 (k := 2) (r := some (.inl 0)) (w1 := (SH, dt267)) rfl ?_
      exact ⟨dt267, rfl, hI268, hF270, (Or.inl ⟨rfl, ⟨by first | exact RSX_f fe276 fl275 (by first | rfl | with_reducible assumption | exact unhid (by with_reducible assumption) | fail) (by first | rfl | with_reducible assumption | exact unhid (by with_reducible assumption) | fail) | exact RSX_no (k := 1) (j := i) ((rfl : (gC (KF 1 b n) (VF b n) 0) i = (gC (KF 1 b n) (VF b n) 0) i).trans (by show gR1 _ _ _ = _; unfold gR1; rw [if_neg (by fail)])) (by decide) (by fail) (by show _ = ((TP b n i : Nat) : Int); fail), by first | exact True.intro | with_reducible assumption | exact unhid (by with_reducible assumption) | rfl | fail | trivial, by first | exact True.intro | with_reducible assumption | exact unhid (by with_reducible assumption) | rfl | fail | trivial, by first | exact True.intro | with_reducible assumption | exact unhid (by with_reducible assumption) | rfl | fail | trivial, by first | exact True.intro | with_reducible assumption | exact unhid (by with_reducible assumption) | rfl | fail | trivial⟩⟩)⟩
  · skip
    refine go_toq PM170 (k := 1) (pc' := 10) (L' := [some (.inr (.inr (some 79))), none]) (st' := [.inr (.inr (some 79))]) (w' := (SH, dt)) rfl ?_
    refine go_callq PM170 PM164 (Q' := _) rfl rfl rfl rfl (sp_X6_opens_x L xs sio (d + 2) dt hI b n t i (by first | exact hbb | (rw [show dt 85 = dt 85 from funext (hF 85 (by decide)), show dt 79 12 = dt 79 12 by first | with_reducible assumption | exact unhid (by with_reducible assumption) | fail]; exact hbb)) (by first | with_reducible assumption | exact unhid (by with_reducible assumption) | exact Eq.trans (by with_reducible assumption) hnn | fail) hz ht hc hi hn5  (by first | exact True.intro | with_reducible assumption | exact unhid (by with_reducible assumption) | rfl | fail | trivial) (by first | exact True.intro | with_reducible assumption | exact unhid (by with_reducible assumption) | rfl | omega | trivial) (by first | exact True.intro | with_reducible assumption | exact unhid (by with_reducible assumption) | rfl | fail | trivial)) ?_
    rintro _ _ ⟨dt278, rfl, hI279, hF280, h277⟩
    refine ⟨rfl, ?_⟩
    have hF281 : Fr [79, 84] dt dt278 := Fr_tr hF hF280 (by decide)
    rcases h277 with ⟨rfl, h277⟩
    obtain ⟨h277_0, h277_1, h277_2, h277_3, h277_4⟩ := h277
    have w282 : dt278 79 2 = dt 79 2 := h277_1
    have w283 : dt278 79 9 = dt 79 9 := h277_2
    have w284 : dt278 79 10 = dt 79 10 := h277_3
    have w285 : dt278 79 12 = dt 79 12 := h277_4
    have fl286 := RSX_0 h277_0 rfl
    have fe287 : (gC (KF 1 b n) (VF b n) 0) i = g3 i := (rfl : (gC (KF 1 b n) (VF b n) 0) i = (gC (KF 1 b n) (VF b n) 0) i).trans ((show (gC (KF 1 b n) (VF b n) 0) i = gB (g3 i) gOk by exact (gC_3 (by (have z_ := unhid cr0; omega))).trans (gB_no (by show ¬ ((3 : Int) = 0); decide)).symm).trans (gB_no fl286.1))
    clear h277_1 h277_2 h277_3 h277_4
    refine go_retq PM170 (k := 2) (r := some (.inl 0)) (w1 := (SH, dt278)) rfl ?_
    exact ⟨dt278, rfl, hI279, hF281, (Or.inl ⟨rfl, ⟨by first | exact RSX_f fe287 fl286 (by first | rfl | with_reducible assumption | exact unhid (by with_reducible assumption) | fail) (by first | rfl | with_reducible assumption | exact unhid (by with_reducible assumption) | fail) | exact RSX_no (k := 1) (j := i) ((rfl : (gC (KF 1 b n) (VF b n) 0) i = (gC (KF 1 b n) (VF b n) 0) i).trans (by show gR1 _ _ _ = _; unfold gR1; rw [if_neg (by fail)])) (by decide) (by fail) (by show _ = ((TP b n i : Nat) : Int); fail), by first | exact True.intro | with_reducible assumption | exact unhid (by with_reducible assumption) | rfl | fail | trivial, by first | exact True.intro | with_reducible assumption | exact unhid (by with_reducible assumption) | rfl | fail | trivial, by first | exact True.intro | with_reducible assumption | exact unhid (by with_reducible assumption) | rfl | fail | trivial, by first | exact True.intro | with_reducible assumption | exact unhid (by with_reducible assumption) | rfl | fail | trivial⟩⟩)⟩
