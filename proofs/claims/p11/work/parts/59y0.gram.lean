set_option maxHeartbeats 1500000 in
set_option maxRecDepth 20000 in
theorem sp_X6_one_g8 (L : Nat) (xs : Nat → Int32) (sio : Option Nat) (d : Nat) (dt : Nat → Nat → Int) (hI : InvC dt) (b : Nat → Int) (n t i : Nat) (hbb : mB (dt 85) (dt 79 12) = b) (hnn : dt 79 12 = (n : Int)) (hz : KZ (KF 1 b n) t) (ht : t ≤ 500) (hc : CUR 1 b n dt i) (hi : i ≤ t) (hn5 : n ≤ 500)  (h_p0 : dt 79 9 = 1) (h_p1 : dt 79 11 ≤ dt 79 15) (h_p2 : dt 79 20 = 8) : GO (am_XX L xs sio) (d + 10) 170 0 [some (.inr (.inr (some 79))), none] [] (SH, dt) (fun r w2 => ∃ dt2 : Nat → Nat → Int, w2 = (SH, dt2) ∧ InvC dt2 ∧ Fr [79, 84] dt dt2 ∧ ((r = some (.inl 0) ∧ (RSX 1 b n i dt2 0 ((gC (KF 1 b n) (VF b n) 0) i)) ∧ (dt2 79 2 = dt 79 2) ∧ (dt2 79 9 = dt 79 9) ∧ (dt2 79 10 = dt 79 10) ∧ (dt2 79 12 = dt 79 12)) ∨ (r = some (.inl 1) ∧ (RSX 1 b n i dt2 1 ((gC (KF 1 b n) (VF b n) 0) i)) ∧ (dt 79 15 + dt2 79 11 ≤ dt2 79 15 + dt 79 11) ∧ (dt 79 11 + 1 ≤ dt2 79 11) ∧ (dt2 79 15 ≤ 500) ∧ (dt2 79 2 = dt 79 2) ∧ (dt2 79 9 = dt 79 9) ∧ (dt2 79 10 = dt 79 10) ∧ (dt2 79 12 = dt 79 12) ∧ (dt2 79 17 = dt 79 17) ∧ (dt2 79 20 = dt 79 20)))) := by
  have hF : Fr [79, 84] dt dt := Fr_refl
  have r1 : 0 ≤ dt 79 15 ∧ dt 79 15 ≤ 500 := InvC_get hI 79 15 rfl rfl
  have r2 : 0 ≤ dt 79 11 ∧ dt 79 11 ≤ 510 := InvC_get hI 79 11 rfl rfl
  have r3 : 0 ≤ dt 79 10 ∧ dt 79 10 ≤ 24 := InvC_get hI 79 10 rfl rfl
  have cr0 := CUR_R hc (.inr rfl)
  have cb0 := CUR_b hc
  have cv0 := CUR_v hc
  have ck0 := KZ_lt (i := i) hz
  have c10 := hc.1
  have r4 : (-2147483648) ≤ dt 79 14 ∧ dt 79 14 ≤ 2147483647 := InvC_get hI 79 14 rfl rfl
  refine go_ifq PM170 (k := 3) (p1 := 44) (p2 := 9) (L' := [some (.inr (.inr (some 79))), none]) (st' := []) (w' := (SH, dt)) rfl (c_ne (a := dt 79 14) (b := 6) (by first | exact bnd r4 (by decide) (by decide) | exact ⟨by omega, by omega⟩) ⟨by decide, by decide⟩) (fun c5 => ?_) (fun c5 => ?_)
  · skip
    refine go_ifq PM170 (k := 3) (p1 := 92) (p2 := 54) (L' := [some (.inr (.inr (some 79))), none]) (st' := []) (w' := (SH, dt)) rfl (c_ne (a := dt 79 14) (b := 140) (by first | exact bnd r4 (by decide) (by decide) | exact ⟨by omega, by omega⟩) ⟨by decide, by decide⟩) (fun c6 => ?_) (fun c6 => ?_)
    · skip
      refine go_toq PM170 (k := 1) (pc' := 93) (L' := [some (.inr (.inr (some 79))), none]) (st' := [.inr (.inr (some 79))]) (w' := (SH, dt)) rfl ?_
      refine go_callq PM170 PM165 (Q' := _) rfl rfl rfl rfl (sp_X6_sumUp_g L xs sio (d + 0) dt hI b n t i (by first | exact hbb | (rw [show dt 85 = dt 85 from funext (hF 85 (by decide)), show dt 79 12 = dt 79 12 by omega]; exact hbb)) (by omega) hz ht hc hi hn5  (by first | exact True.intro | rfl | omega | trivial) (by first | exact True.intro | rfl | omega | trivial)) ?_
      rintro _ _ ⟨dt8, rfl, hI9, hF10, h7⟩
      refine ⟨rfl, ?_⟩
      have hF11 : Fr [79, 84] dt dt8 := Fr_tr hF hF10 (by decide)
      rcases h7 with ⟨rfl, h7⟩ | ⟨rfl, h7⟩
      · skip
        obtain ⟨h7_0, h7_1, h7_2, h7_3, h7_4⟩ := h7
        have fl12 := RSX_0 h7_0 rfl
        have fe13 : (gC (KF 1 b n) (VF b n) 0) i = (gE (KF 1 b n) (VF b n)) i := (rfl : (gC (KF 1 b n) (VF b n) 0) i = (gC (KF 1 b n) (VF b n) 0) i).trans ((show (gC (KF 1 b n) (VF b n) 0) i = gB ((gE (KF 1 b n) (VF b n)) i) (gR1 (KF 1 b n) (VF b n)) by exact (gC_1 (by omega) (by omega)).trans gC1_R).trans (gB_no fl12.1))
        refine go_retq PM170 (k := 2) (r := some (.inl 0)) (w1 := (SH, dt8)) rfl ?_
        exact ⟨dt8, rfl, hI9, hF11, (Or.inl ⟨rfl, ⟨by first | exact RSX_f fe13 fl12 (by omega) (by omega) | exact RSX_no (k := 1) (j := i) ((rfl : (gC (KF 1 b n) (VF b n) 0) i = (gC (KF 1 b n) (VF b n) 0) i).trans (by show gR1 _ _ _ = _; unfold gR1; rw [if_neg (by omega)])) (by decide) (by omega) (by show _ = ((TP b n i : Nat) : Int); omega), by first | exact True.intro | rfl | omega | trivial, by first | exact True.intro | rfl | omega | trivial, by first | exact True.intro | rfl | omega | trivial, by first | exact True.intro | rfl | omega | trivial⟩⟩)⟩
      · skip
        obtain ⟨h7_0, h7_1, h7_2, h7_3, h7_4, h7_5, h7_6, h7_7, h7_8, h7_9⟩ := h7
        obtain ⟨j14, ej15, hc16⟩ := RSX_1 h7_0 (by decide)
        have hp17 : (gC (KF 1 b n) (VF b n) 0) i = (gR1 (KF 1 b n) (VF b n)) j14 := (rfl : (gC (KF 1 b n) (VF b n) 0) i = (gC (KF 1 b n) (VF b n) 0) i).trans ((show (gC (KF 1 b n) (VF b n) 0) i = gB ((gE (KF 1 b n) (VF b n)) i) (gR1 (KF 1 b n) (VF b n)) by exact (gC_1 (by omega) (by omega)).trans gC1_R).trans (by rw [ej15]; exact gB_0))
        have hi18 : j14 ≤ t := by have z := gE_M (K := (KF 1 b n)) (V := (VF b n)) (i := i) hz; rw [ej15] at z; have y := z rfl; simp only at y; omega
        clear cr0 cb0 cv0 ck0
        have cr19 := CUR_R hc16 (.inr rfl)
        have cb20 := CUR_b hc16
        have cv21 := CUR_v hc16
        have ck22 := KZ_lt (i := j14) hz
        have c123 := (hc16).1
        have ci24 := hi18
        have r25 : (-2147483648) ≤ dt8 79 14 ∧ dt8 79 14 ≤ 2147483647 := InvC_get hI9 79 14 rfl rfl
        refine go_ifq PM170 (k := 4) (p1 := 116) (p2 := 111) (L' := [some (.inr (.inr (some 79))), none]) (st' := []) (w' := (SH, dt8)) rfl (c_ne (a := dt8 79 14) (b := 160) (by first | exact bnd r25 (by decide) (by decide) | exact ⟨by omega, by omega⟩) ⟨by decide, by decide⟩) (fun c26 => ?_) (fun c26 => ?_)
        · skip
          refine go_ifq PM170 (k := 3) (p1 := 131) (p2 := 126) (L' := [some (.inr (.inr (some 79))), none]) (st' := []) (w' := (SH, dt8)) rfl (c_ne (a := dt8 79 14) (b := 161) (by first | exact bnd r25 (by decide) (by decide) | exact ⟨by omega, by omega⟩) ⟨by decide, by decide⟩) (fun c27 => ?_) (fun c27 => ?_)
          · skip
            refine go_ifq PM170 (k := 3) (p1 := 146) (p2 := 141) (L' := [some (.inr (.inr (some 79))), none]) (st' := []) (w' := (SH, dt8)) rfl (c_ne (a := dt8 79 14) (b := 162) (by first | exact bnd r25 (by decide) (by decide) | exact ⟨by omega, by omega⟩) ⟨by decide, by decide⟩) (fun c28 => ?_) (fun c28 => ?_)
            · skip
              refine go_toq PM170 (k := 7) (pc' := 155) (L' := [some (.inr (.inr (some 79))), some (.inl (-1))]) (st' := [.inl 1, .inr (.inr (some 79))]) (w' := (SH, dt8)) rfl ?_
              refine go_callq PM170 PM160 (Q' := _) rfl rfl rfl rfl (sp_X6_bad_g L xs sio (d + 9) dt8 hI9  1 ⟨by decide, by decide⟩ ) ?_
              rintro _ _ ⟨dt30, rfl, hI31, hF32, h29⟩
              refine ⟨rfl, ?_⟩
              have hF33 : Fr [79, 84] dt dt30 := Fr_tr hF11 hF32 (by decide)
              rcases h29 with ⟨rfl, h29⟩
              obtain ⟨h29_0, h29_1, h29_2, h29_3, h29_4, h29_5, h29_6, h29_7, h29_8, h29_9, h29_10, h29_11⟩ := h29
              have hc34 : CUR 1 b n dt30 j14 := CUR_sm hc16 (by omega) (by omega) (by omega) (by omega)
              refine go_retq PM170 (k := 0) (r := some (.inl 0)) (w1 := (SH, dt30)) rfl ?_
              exact ⟨dt30, rfl, hI31, hF33, (Or.inl ⟨rfl, ⟨by first | exact RSX_f hI hI (by omega) (by omega) | exact RSX_no (k := 1) (j := j14) (hp17.trans (by show gR1 _ _ _ = _; unfold gR1; rw [if_neg (by omega)])) (by decide) (by omega) (by show _ = ((TP b n j14 : Nat) : Int); omega), by first | exact True.intro | rfl | omega | trivial, by first | exact True.intro | rfl | omega | trivial, by first | exact True.intro | rfl | omega | trivial, by first | exact True.intro | rfl | omega | trivial⟩⟩)⟩
            · skip
              refine go_toq PM170 (k := 7) (pc' := 160) (L' := [some (.inr (.inr (some 79))), some (.inl 13)]) (st' := [.inr (.inr (some 79))]) (w' := (SH, dt8)) rfl ?_
              refine go_callq PM170 PM159 (Q' := _) rfl rfl rfl rfl (sp_X6_next0_p1 L xs sio (d + 3) dt8 hI9   (by first | exact True.intro | rfl | omega | trivial) (by first | exact True.intro | rfl | omega | trivial)) ?_
              rintro _ _ ⟨dt36, rfl, hI37, hF38, h35⟩
              refine ⟨rfl, ?_⟩
              have hF39 : Fr [79, 84] dt dt36 := Fr_tr hF11 hF38 (by decide)
              rcases h35 with ⟨rfl, h35⟩
              obtain ⟨h35_0, h35_1, h35_2, h35_3, h35_4, h35_5, h35_6, h35_7, h35_8⟩ := h35
              have hq40 := h35_0
              rw [show dt8 85 = dt 85 from funext (hF11 85 (by decide)), show dt8 79 12 = dt 79 12 by omega, hbb, show (dt 79 12).toNat = n by omega] at hq40
              have hc41 : CUR 1 b n dt36 (j14 + 1) := CUR_n hc16 hq40
              have hi42 : j14 + 1 ≤ t := by omega
              have av43 : dt8 79 15 + 1 ≤ dt8 79 13 := by omega
              have hp44 : (gC (KF 1 b n) (VF b n) 0) i = (gE (KF 1 b n) (VF b n)) (j14 + 1) := hp17.trans (by show gR1 _ _ j14 = _; unfold gR1; rw [if_pos (by omega)])
              clear cr19 cb20 cv21 ck22
              have cr45 := CUR_R hc41 (.inr rfl)
              have cb46 := CUR_b hc41
              have cv47 := CUR_v hc41
              have ck48 := KZ_lt (i := (j14 + 1)) hz
              have c149 := (hc41).1
              have ci50 := hi42
              refine go_toq PM170 (k := 1) (pc' := 164) (L' := [some (.inr (.inr (some 79))), some (.inl 13)]) (st' := [.inr (.inr (some 79))]) (w' := (SH, dt36)) rfl ?_
              refine go_callq PM170 PM165 (Q' := _) rfl rfl rfl rfl (sp_X6_sumUp_g L xs sio (d + 0) dt36 hI37 b n t (j14 + 1) (by first | exact hbb | (rw [show dt36 85 = dt 85 from funext (hF39 85 (by decide)), show dt36 79 12 = dt 79 12 by omega]; exact hbb)) (by omega) hz ht hc41 hi42 hn5  (by first | exact True.intro | rfl | omega | trivial) (by first | exact True.intro | rfl | omega | trivial)) ?_
              rintro _ _ ⟨dt52, rfl, hI53, hF54, h51⟩
              refine ⟨rfl, ?_⟩
              have hF55 : Fr [79, 84] dt dt52 := Fr_tr hF39 hF54 (by decide)
              rcases h51 with ⟨rfl, h51⟩ | ⟨rfl, h51⟩
              · skip
                obtain ⟨h51_0, h51_1, h51_2, h51_3, h51_4⟩ := h51
                have fl56 := RSX_0 h51_0 rfl
                have fe57 : (gC (KF 1 b n) (VF b n) 0) i = (gE (KF 1 b n) (VF b n)) (j14 + 1) := hp44.trans ((show (gE (KF 1 b n) (VF b n)) (j14 + 1) = gB ((gE (KF 1 b n) (VF b n)) (j14 + 1)) gOk by exact gB_id.symm).trans (gB_no fl56.1))
                refine go_retq PM170 (k := 2) (r := some (.inl 0)) (w1 := (SH, dt52)) rfl ?_
                exact ⟨dt52, rfl, hI53, hF55, (Or.inl ⟨rfl, ⟨by first | exact RSX_f fe57 fl56 (by omega) (by omega) | exact RSX_no (k := 1) (j := (j14 + 1)) (hp44.trans (by show gR1 _ _ _ = _; unfold gR1; rw [if_neg (by omega)])) (by decide) (by omega) (by show _ = ((TP b n (j14 + 1) : Nat) : Int); omega), by first | exact True.intro | rfl | omega | trivial, by first | exact True.intro | rfl | omega | trivial, by first | exact True.intro | rfl | omega | trivial, by first | exact True.intro | rfl | omega | trivial⟩⟩)⟩
              · skip
                obtain ⟨h51_0, h51_1, h51_2, h51_3, h51_4, h51_5, h51_6, h51_7, h51_8, h51_9⟩ := h51
                obtain ⟨j58, ej59, hc60⟩ := RSX_1 h51_0 (by decide)
                have hp61 : (gC (KF 1 b n) (VF b n) 0) i = gOk j58 := hp44.trans ((show (gE (KF 1 b n) (VF b n)) (j14 + 1) = gB ((gE (KF 1 b n) (VF b n)) (j14 + 1)) gOk by exact gB_id.symm).trans (by rw [ej59]; exact gB_0))
                have hi62 : j58 ≤ t := by have z := gE_M (K := (KF 1 b n)) (V := (VF b n)) (i := (j14 + 1)) hz; rw [ej59] at z; have y := z rfl; simp only at y; omega
                clear cr45 cb46 cv47 ck48
                have cr63 := CUR_R hc60 (.inr rfl)
                have cb64 := CUR_b hc60
                have cv65 := CUR_v hc60
                have ck66 := KZ_lt (i := j58) hz
                have c167 := (hc60).1
                have ci68 := hi62
                refine go_toq PM170 (k := 4) (pc' := 175) (L' := [some (.inr (.inr (some 79))), some (.inl 13)]) (st' := [.inl 0, .inl 13, .inr (.inr (some 79))]) (w' := (SH, dt52)) rfl ?_
                refine go_callq PM170 PM163 (Q' := _) rfl rfl rfl rfl (sp_X6_lay_g L xs sio (d + 9) dt52 hI53  13 ⟨by decide, by decide⟩ 0 ⟨by decide, by decide⟩ (by first | exact True.intro | rfl | omega | trivial)) ?_
                rintro _ _ ⟨dt70, rfl, hI71, hF72, h69⟩
                refine ⟨rfl, ?_⟩
                have hF73 : Fr [79, 84] dt dt70 := Fr_tr hF55 hF72 (by decide)
                rcases h69 with ⟨rfl, h69⟩
                obtain ⟨h69_0, h69_1, h69_2, h69_3, h69_4, h69_5, h69_6, h69_7, h69_8, h69_9, h69_10⟩ := h69
                have hc74 : CUR 1 b n dt70 j58 := CUR_sm hc60 (by omega) (by omega) (by omega) (by omega)
                refine go_retq PM170 (k := 1) (r := some (.inl 1)) (w1 := (SH, dt70)) rfl ?_
                exact ⟨dt70, rfl, hI71, hF73, (Or.inr ⟨rfl, ⟨by exact RSX_ok (hp61.trans (by rfl)) hc74, by first | exact True.intro | rfl | omega | trivial, by first | exact True.intro | rfl | omega | trivial, by exact (InvC_get (by assumption) 79 15 rfl rfl).2, by first | exact True.intro | rfl | omega | trivial, by first | exact True.intro | rfl | omega | trivial, by first | exact True.intro | rfl | omega | trivial, by first | exact True.intro | rfl | omega | trivial, by first | exact True.intro | rfl | omega | trivial, by first | exact True.intro | rfl | omega | trivial⟩⟩)⟩
          · skip
            refine go_toq PM170 (k := 7) (pc' := 160) (L' := [some (.inr (.inr (some 79))), some (.inl 12)]) (st' := [.inr (.inr (some 79))]) (w' := (SH, dt8)) rfl ?_
            refine go_callq PM170 PM159 (Q' := _) rfl rfl rfl rfl (sp_X6_next0_p1 L xs sio (d + 3) dt8 hI9   (by first | exact True.intro | rfl | omega | trivial) (by first | exact True.intro | rfl | omega | trivial)) ?_
            rintro _ _ ⟨dt76, rfl, hI77, hF78, h75⟩
            refine ⟨rfl, ?_⟩
            have hF79 : Fr [79, 84] dt dt76 := Fr_tr hF11 hF78 (by decide)
            rcases h75 with ⟨rfl, h75⟩
            obtain ⟨h75_0, h75_1, h75_2, h75_3, h75_4, h75_5, h75_6, h75_7, h75_8⟩ := h75
            have hq80 := h75_0
            rw [show dt8 85 = dt 85 from funext (hF11 85 (by decide)), show dt8 79 12 = dt 79 12 by omega, hbb, show (dt 79 12).toNat = n by omega] at hq80
            have hc81 : CUR 1 b n dt76 (j14 + 1) := CUR_n hc16 hq80
            have hi82 : j14 + 1 ≤ t := by omega
            have av83 : dt8 79 15 + 1 ≤ dt8 79 13 := by omega
            have hp84 : (gC (KF 1 b n) (VF b n) 0) i = (gE (KF 1 b n) (VF b n)) (j14 + 1) := hp17.trans (by show gR1 _ _ j14 = _; unfold gR1; rw [if_pos (by omega)])
            clear cr19 cb20 cv21 ck22
            have cr85 := CUR_R hc81 (.inr rfl)
            have cb86 := CUR_b hc81
            have cv87 := CUR_v hc81
            have ck88 := KZ_lt (i := (j14 + 1)) hz
            have c189 := (hc81).1
            have ci90 := hi82
            refine go_toq PM170 (k := 1) (pc' := 164) (L' := [some (.inr (.inr (some 79))), some (.inl 12)]) (st' := [.inr (.inr (some 79))]) (w' := (SH, dt76)) rfl ?_
            refine go_callq PM170 PM165 (Q' := _) rfl rfl rfl rfl (sp_X6_sumUp_g L xs sio (d + 0) dt76 hI77 b n t (j14 + 1) (by first | exact hbb | (rw [show dt76 85 = dt 85 from funext (hF79 85 (by decide)), show dt76 79 12 = dt 79 12 by omega]; exact hbb)) (by omega) hz ht hc81 hi82 hn5  (by first | exact True.intro | rfl | omega | trivial) (by first | exact True.intro | rfl | omega | trivial)) ?_
            rintro _ _ ⟨dt92, rfl, hI93, hF94, h91⟩
            refine ⟨rfl, ?_⟩
            have hF95 : Fr [79, 84] dt dt92 := Fr_tr hF79 hF94 (by decide)
            rcases h91 with ⟨rfl, h91⟩ | ⟨rfl, h91⟩
            · skip
              obtain ⟨h91_0, h91_1, h91_2, h91_3, h91_4⟩ := h91
              have fl96 := RSX_0 h91_0 rfl
              have fe97 : (gC (KF 1 b n) (VF b n) 0) i = (gE (KF 1 b n) (VF b n)) (j14 + 1) := hp84.trans ((show (gE (KF 1 b n) (VF b n)) (j14 + 1) = gB ((gE (KF 1 b n) (VF b n)) (j14 + 1)) gOk by exact gB_id.symm).trans (gB_no fl96.1))
              refine go_retq PM170 (k := 2) (r := some (.inl 0)) (w1 := (SH, dt92)) rfl ?_
              exact ⟨dt92, rfl, hI93, hF95, (Or.inl ⟨rfl, ⟨by first | exact RSX_f fe97 fl96 (by omega) (by omega) | exact RSX_no (k := 1) (j := (j14 + 1)) (hp84.trans (by show gR1 _ _ _ = _; unfold gR1; rw [if_neg (by omega)])) (by decide) (by omega) (by show _ = ((TP b n (j14 + 1) : Nat) : Int); omega), by first | exact True.intro | rfl | omega | trivial, by first | exact True.intro | rfl | omega | trivial, by first | exact True.intro | rfl | omega | trivial, by first | exact True.intro | rfl | omega | trivial⟩⟩)⟩
            · skip
              obtain ⟨h91_0, h91_1, h91_2, h91_3, h91_4, h91_5, h91_6, h91_7, h91_8, h91_9⟩ := h91
              obtain ⟨j98, ej99, hc100⟩ := RSX_1 h91_0 (by decide)
              have hp101 : (gC (KF 1 b n) (VF b n) 0) i = gOk j98 := hp84.trans ((show (gE (KF 1 b n) (VF b n)) (j14 + 1) = gB ((gE (KF 1 b n) (VF b n)) (j14 + 1)) gOk by exact gB_id.symm).trans (by rw [ej99]; exact gB_0))
              have hi102 : j98 ≤ t := by have z := gE_M (K := (KF 1 b n)) (V := (VF b n)) (i := (j14 + 1)) hz; rw [ej99] at z; have y := z rfl; simp only at y; omega
              clear cr85 cb86 cv87 ck88
              have cr103 := CUR_R hc100 (.inr rfl)
              have cb104 := CUR_b hc100
              have cv105 := CUR_v hc100
              have ck106 := KZ_lt (i := j98) hz
              have c1107 := (hc100).1
              have ci108 := hi102
              refine go_toq PM170 (k := 4) (pc' := 175) (L' := [some (.inr (.inr (some 79))), some (.inl 12)]) (st' := [.inl 0, .inl 12, .inr (.inr (some 79))]) (w' := (SH, dt92)) rfl ?_
              refine go_callq PM170 PM163 (Q' := _) rfl rfl rfl rfl (sp_X6_lay_g L xs sio (d + 9) dt92 hI93  12 ⟨by decide, by decide⟩ 0 ⟨by decide, by decide⟩ (by first | exact True.intro | rfl | omega | trivial)) ?_
              rintro _ _ ⟨dt110, rfl, hI111, hF112, h109⟩
              refine ⟨rfl, ?_⟩
              have hF113 : Fr [79, 84] dt dt110 := Fr_tr hF95 hF112 (by decide)
              rcases h109 with ⟨rfl, h109⟩
              obtain ⟨h109_0, h109_1, h109_2, h109_3, h109_4, h109_5, h109_6, h109_7, h109_8, h109_9, h109_10⟩ := h109
              have hc114 : CUR 1 b n dt110 j98 := CUR_sm hc100 (by omega) (by omega) (by omega) (by omega)
              refine go_retq PM170 (k := 1) (r := some (.inl 1)) (w1 := (SH, dt110)) rfl ?_
              exact ⟨dt110, rfl, hI111, hF113, (Or.inr ⟨rfl, ⟨by exact RSX_ok (hp101.trans (by rfl)) hc114, by first | exact True.intro | rfl | omega | trivial, by first | exact True.intro | rfl | omega | trivial, by exact (InvC_get (by assumption) 79 15 rfl rfl).2, by first | exact True.intro | rfl | omega | trivial, by first | exact True.intro | rfl | omega | trivial, by first | exact True.intro | rfl | omega | trivial, by first | exact True.intro | rfl | omega | trivial, by first | exact True.intro | rfl | omega | trivial, by first | exact True.intro | rfl | omega | trivial⟩⟩)⟩
        · skip
          refine go_toq PM170 (k := 7) (pc' := 160) (L' := [some (.inr (.inr (some 79))), some (.inl 11)]) (st' := [.inr (.inr (some 79))]) (w' := (SH, dt8)) rfl ?_
          refine go_callq PM170 PM159 (Q' := _) rfl rfl rfl rfl (sp_X6_next0_p1 L xs sio (d + 3) dt8 hI9   (by first | exact True.intro | rfl | omega | trivial) (by first | exact True.intro | rfl | omega | trivial)) ?_
          rintro _ _ ⟨dt116, rfl, hI117, hF118, h115⟩
          refine ⟨rfl, ?_⟩
          have hF119 : Fr [79, 84] dt dt116 := Fr_tr hF11 hF118 (by decide)
          rcases h115 with ⟨rfl, h115⟩
          obtain ⟨h115_0, h115_1, h115_2, h115_3, h115_4, h115_5, h115_6, h115_7, h115_8⟩ := h115
          have hq120 := h115_0
          rw [show dt8 85 = dt 85 from funext (hF11 85 (by decide)), show dt8 79 12 = dt 79 12 by omega, hbb, show (dt 79 12).toNat = n by omega] at hq120
          have hc121 : CUR 1 b n dt116 (j14 + 1) := CUR_n hc16 hq120
          have hi122 : j14 + 1 ≤ t := by omega
          have av123 : dt8 79 15 + 1 ≤ dt8 79 13 := by omega
          have hp124 : (gC (KF 1 b n) (VF b n) 0) i = (gE (KF 1 b n) (VF b n)) (j14 + 1) := hp17.trans (by show gR1 _ _ j14 = _; unfold gR1; rw [if_pos (by omega)])
          clear cr19 cb20 cv21 ck22
          have cr125 := CUR_R hc121 (.inr rfl)
          have cb126 := CUR_b hc121
          have cv127 := CUR_v hc121
          have ck128 := KZ_lt (i := (j14 + 1)) hz
          have c1129 := (hc121).1
          have ci130 := hi122
          refine go_toq PM170 (k := 1) (pc' := 164) (L' := [some (.inr (.inr (some 79))), some (.inl 11)]) (st' := [.inr (.inr (some 79))]) (w' := (SH, dt116)) rfl ?_
          refine go_callq PM170 PM165 (Q' := _) rfl rfl rfl rfl (sp_X6_sumUp_g L xs sio (d + 0) dt116 hI117 b n t (j14 + 1) (by first | exact hbb | (rw [show dt116 85 = dt 85 from funext (hF119 85 (by decide)), show dt116 79 12 = dt 79 12 by omega]; exact hbb)) (by omega) hz ht hc121 hi122 hn5  (by first | exact True.intro | rfl | omega | trivial) (by first | exact True.intro | rfl | omega | trivial)) ?_
          rintro _ _ ⟨dt132, rfl, hI133, hF134, h131⟩
          refine ⟨rfl, ?_⟩
          have hF135 : Fr [79, 84] dt dt132 := Fr_tr hF119 hF134 (by decide)
          rcases h131 with ⟨rfl, h131⟩ | ⟨rfl, h131⟩
          · skip
            obtain ⟨h131_0, h131_1, h131_2, h131_3, h131_4⟩ := h131
            have fl136 := RSX_0 h131_0 rfl
            have fe137 : (gC (KF 1 b n) (VF b n) 0) i = (gE (KF 1 b n) (VF b n)) (j14 + 1) := hp124.trans ((show (gE (KF 1 b n) (VF b n)) (j14 + 1) = gB ((gE (KF 1 b n) (VF b n)) (j14 + 1)) gOk by exact gB_id.symm).trans (gB_no fl136.1))
            refine go_retq PM170 (k := 2) (r := some (.inl 0)) (w1 := (SH, dt132)) rfl ?_
            exact ⟨dt132, rfl, hI133, hF135, (Or.inl ⟨rfl, ⟨by first | exact RSX_f fe137 fl136 (by omega) (by omega) | exact RSX_no (k := 1) (j := (j14 + 1)) (hp124.trans (by show gR1 _ _ _ = _; unfold gR1; rw [if_neg (by omega)])) (by decide) (by omega) (by show _ = ((TP b n (j14 + 1) : Nat) : Int); omega), by first | exact True.intro | rfl | omega | trivial, by first | exact True.intro | rfl | omega | trivial, by first | exact True.intro | rfl | omega | trivial, by first | exact True.intro | rfl | omega | trivial⟩⟩)⟩
          · skip
            obtain ⟨h131_0, h131_1, h131_2, h131_3, h131_4, h131_5, h131_6, h131_7, h131_8, h131_9⟩ := h131
            obtain ⟨j138, ej139, hc140⟩ := RSX_1 h131_0 (by decide)
            have hp141 : (gC (KF 1 b n) (VF b n) 0) i = gOk j138 := hp124.trans ((show (gE (KF 1 b n) (VF b n)) (j14 + 1) = gB ((gE (KF 1 b n) (VF b n)) (j14 + 1)) gOk by exact gB_id.symm).trans (by rw [ej139]; exact gB_0))
            have hi142 : j138 ≤ t := by have z := gE_M (K := (KF 1 b n)) (V := (VF b n)) (i := (j14 + 1)) hz; rw [ej139] at z; have y := z rfl; simp only at y; omega
            clear cr125 cb126 cv127 ck128
            have cr143 := CUR_R hc140 (.inr rfl)
            have cb144 := CUR_b hc140
            have cv145 := CUR_v hc140
            have ck146 := KZ_lt (i := j138) hz
            have c1147 := (hc140).1
            have ci148 := hi142
            refine go_toq PM170 (k := 4) (pc' := 175) (L' := [some (.inr (.inr (some 79))), some (.inl 11)]) (st' := [.inl 0, .inl 11, .inr (.inr (some 79))]) (w' := (SH, dt132)) rfl ?_
            refine go_callq PM170 PM163 (Q' := _) rfl rfl rfl rfl (sp_X6_lay_g L xs sio (d + 9) dt132 hI133  11 ⟨by decide, by decide⟩ 0 ⟨by decide, by decide⟩ (by first | exact True.intro | rfl | omega | trivial)) ?_
            rintro _ _ ⟨dt150, rfl, hI151, hF152, h149⟩
            refine ⟨rfl, ?_⟩
            have hF153 : Fr [79, 84] dt dt150 := Fr_tr hF135 hF152 (by decide)
            rcases h149 with ⟨rfl, h149⟩
            obtain ⟨h149_0, h149_1, h149_2, h149_3, h149_4, h149_5, h149_6, h149_7, h149_8, h149_9, h149_10⟩ := h149
            have hc154 : CUR 1 b n dt150 j138 := CUR_sm hc140 (by omega) (by omega) (by omega) (by omega)
            refine go_retq PM170 (k := 1) (r := some (.inl 1)) (w1 := (SH, dt150)) rfl ?_
            exact ⟨dt150, rfl, hI151, hF153, (Or.inr ⟨rfl, ⟨by exact RSX_ok (hp141.trans (by rfl)) hc154, by first | exact True.intro | rfl | omega | trivial, by first | exact True.intro | rfl | omega | trivial, by exact (InvC_get (by assumption) 79 15 rfl rfl).2, by first | exact True.intro | rfl | omega | trivial, by first | exact True.intro | rfl | omega | trivial, by first | exact True.intro | rfl | omega | trivial, by first | exact True.intro | rfl | omega | trivial, by first | exact True.intro | rfl | omega | trivial, by first | exact True.intro | rfl | omega | trivial⟩⟩)⟩
    · skip
      refine go_toq PM170 (k := 1) (pc' := 55) (L' := [some (.inr (.inr (some 79))), none]) (st' := [.inr (.inr (some 79))]) (w' := (SH, dt)) rfl ?_
      refine go_callq PM170 PM164 (Q' := _) rfl rfl rfl rfl (sp_X6_opens_x L xs sio (d + 2) dt hI b n t i (by first | exact hbb | (rw [show dt 85 = dt 85 from funext (hF 85 (by decide)), show dt 79 12 = dt 79 12 by omega]; exact hbb)) (by omega) hz ht hc hi hn5  (by first | exact True.intro | rfl | omega | trivial) (by first | exact True.intro | rfl | omega | trivial) (by first | exact True.intro | rfl | omega | trivial)) ?_
      rintro _ _ ⟨dt156, rfl, hI157, hF158, h155⟩
      refine ⟨rfl, ?_⟩
      have hF159 : Fr [79, 84] dt dt156 := Fr_tr hF hF158 (by decide)
      rcases h155 with ⟨rfl, h155⟩
      obtain ⟨h155_0, h155_1, h155_2, h155_3, h155_4⟩ := h155
      have fl160 := RSX_0 h155_0 rfl
      have fe161 : (gC (KF 1 b n) (VF b n) 0) i = g3 i := (rfl : (gC (KF 1 b n) (VF b n) 0) i = (gC (KF 1 b n) (VF b n) 0) i).trans ((show (gC (KF 1 b n) (VF b n) 0) i = gB (g3 i) gOk by exact (gC_3 (by omega)).trans (gB_no (by show ¬ ((3 : Int) = 0); decide)).symm).trans (gB_no fl160.1))
      refine go_retq PM170 (k := 2) (r := some (.inl 0)) (w1 := (SH, dt156)) rfl ?_
      exact ⟨dt156, rfl, hI157, hF159, (Or.inl ⟨rfl, ⟨by first | exact RSX_f fe161 fl160 (by omega) (by omega) | exact RSX_no (k := 1) (j := i) ((rfl : (gC (KF 1 b n) (VF b n) 0) i = (gC (KF 1 b n) (VF b n) 0) i).trans (by show gR1 _ _ _ = _; unfold gR1; rw [if_neg (by omega)])) (by decide) (by omega) (by show _ = ((TP b n i : Nat) : Int); omega), by first | exact True.intro | rfl | omega | trivial, by first | exact True.intro | rfl | omega | trivial, by first | exact True.intro | rfl | omega | trivial, by first | exact True.intro | rfl | omega | trivial⟩⟩)⟩
  · skip
    refine go_toq PM170 (k := 1) (pc' := 10) (L' := [some (.inr (.inr (some 79))), none]) (st' := [.inr (.inr (some 79))]) (w' := (SH, dt)) rfl ?_
    refine go_callq PM170 PM164 (Q' := _) rfl rfl rfl rfl (sp_X6_opens_x L xs sio (d + 2) dt hI b n t i (by first | exact hbb | (rw [show dt 85 = dt 85 from funext (hF 85 (by decide)), show dt 79 12 = dt 79 12 by omega]; exact hbb)) (by omega) hz ht hc hi hn5  (by first | exact True.intro | rfl | omega | trivial) (by first | exact True.intro | rfl | omega | trivial) (by first | exact True.intro | rfl | omega | trivial)) ?_
    rintro _ _ ⟨dt163, rfl, hI164, hF165, h162⟩
    refine ⟨rfl, ?_⟩
    have hF166 : Fr [79, 84] dt dt163 := Fr_tr hF hF165 (by decide)
    rcases h162 with ⟨rfl, h162⟩
    obtain ⟨h162_0, h162_1, h162_2, h162_3, h162_4⟩ := h162
    have fl167 := RSX_0 h162_0 rfl
    have fe168 : (gC (KF 1 b n) (VF b n) 0) i = g3 i := (rfl : (gC (KF 1 b n) (VF b n) 0) i = (gC (KF 1 b n) (VF b n) 0) i).trans ((show (gC (KF 1 b n) (VF b n) 0) i = gB (g3 i) gOk by exact (gC_3 (by omega)).trans (gB_no (by show ¬ ((3 : Int) = 0); decide)).symm).trans (gB_no fl167.1))
    refine go_retq PM170 (k := 2) (r := some (.inl 0)) (w1 := (SH, dt163)) rfl ?_
    exact ⟨dt163, rfl, hI164, hF166, (Or.inl ⟨rfl, ⟨by first | exact RSX_f fe168 fl167 (by omega) (by omega) | exact RSX_no (k := 1) (j := i) ((rfl : (gC (KF 1 b n) (VF b n) 0) i = (gC (KF 1 b n) (VF b n) 0) i).trans (by show gR1 _ _ _ = _; unfold gR1; rw [if_neg (by omega)])) (by decide) (by omega) (by show _ = ((TP b n i : Nat) : Int); omega), by first | exact True.intro | rfl | omega | trivial, by first | exact True.intro | rfl | omega | trivial, by first | exact True.intro | rfl | omega | trivial, by first | exact True.intro | rfl | omega | trivial⟩⟩)⟩
