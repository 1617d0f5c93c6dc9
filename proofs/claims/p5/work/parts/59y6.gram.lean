set_option maxHeartbeats 8000000 in
set_option maxRecDepth 20000 in
theorem sp_X6_one_g2 (L : Nat) (xs : Nat → Int32) (sio : Option Nat) (d : Nat) (dt : Nat → Nat → Int) (hI : InvC dt) (b : Nat → Int) (n t i : Nat) (hbb : mB (dt 85) (dt 79 12) = b) (hnn : dt 79 12 = (n : Int)) (hz : KZ (KF 1 b n) t) (ht : t ≤ 500) (hc : CUR 1 b n dt i) (hi : i ≤ t) (hn5 : n ≤ 500)  (h_p0 : dt 79 9 = 1) (h_p1 : dt 79 11 ≤ dt 79 15) (h_p2 : dt 79 20 = 2) : GO (am_XX L xs sio) (d + 28) 170 0 [some (.inr (.inr (some 79))), none] [] (SH, dt) (fun r w2 => ∃ dt2 : Nat → Nat → Int, w2 = (SH, dt2) ∧ InvC dt2 ∧ Fr [79, 84] dt dt2 ∧ ((r = some (.inl 0) ∧ (RSX 1 b n i dt2 0 ((gC (KF 1 b n) (VF b n) 6) i)) ∧ (dt2 79 2 = dt 79 2) ∧ (dt2 79 9 = dt 79 9) ∧ (dt2 79 10 = dt 79 10) ∧ (dt2 79 12 = dt 79 12)) ∨ (r = some (.inl 1) ∧ (RSX 1 b n i dt2 1 ((gC (KF 1 b n) (VF b n) 6) i)) ∧ (dt 79 15 + dt2 79 11 ≤ dt2 79 15 + dt 79 11) ∧ (dt 79 11 + 1 ≤ dt2 79 11) ∧ (dt2 79 15 ≤ 500) ∧ (dt2 79 2 = dt 79 2) ∧ (dt2 79 9 = dt 79 9) ∧ (dt2 79 10 = dt 79 10) ∧ (dt2 79 12 = dt 79 12) ∧ (dt2 79 17 = dt 79 17) ∧ (dt2 79 20 = dt 79 20)))) := by
  have hF : Fr [79, 84] dt dt := Fr_refl
  have r1 : 0 ≤ dt 79 15 ∧ dt 79 15 ≤ 500 := InvC_get hI 79 15 rfl rfl
  have r2 : 0 ≤ dt 79 11 ∧ dt 79 11 ≤ 510 := InvC_get hI 79 11 rfl rfl
  have r3 : 0 ≤ dt 79 10 ∧ dt 79 10 ≤ 24 := InvC_get hI 79 10 rfl rfl
  have cr0 := CUR_R hc (.inr rfl)
  have cb0 := CUR_b hc
  have cv0 := CUR_v hc
  have ck0 := KZ_lt (i := i) hz
  have c10 := hc.1
  have r4 : (-2147483648) ≤ dt 79 14 ∧ dt 79 14 ≤ 2147483647 := InvC_get hI 79 14 rfl rfl
  refine go_if (k := 4) (p1 := 44) (p2 := 9) (L' := [some (.inr (.inr (some 79))), none]) (st' := []) (w' := (SH, dt)) (fun _ => rfl) (c_ne (a := dt 79 14) (b := 6) ⟨by omega, by omega⟩ ⟨by omega, by omega⟩) (fun c5 => ?_) (fun c5 => ?_)
  · skip
    refine go_if (k := 4) (p1 := 92) (p2 := 54) (L' := [some (.inr (.inr (some 79))), none]) (st' := []) (w' := (SH, dt)) (fun _ => rfl) (c_ne (a := dt 79 14) (b := 140) ⟨by omega, by omega⟩ ⟨by omega, by omega⟩) (fun c6 => ?_) (fun c6 => ?_)
    · skip
      refine go_to (k := 1) (pc' := 93) (L' := [some (.inr (.inr (some 79))), none]) (st' := [.inr (.inr (some 79))]) (w' := (SH, dt)) (fun _ => rfl) ?_
      refine go_call (Q' := _) rfl rfl rfl rfl rfl (sp_X6_sumUp_g L xs sio (d + 18) dt hI b n t i (by first | exact hbb | (rw [show dt 85 = dt 85 from funext (hF 85 (by decide)), show dt 79 12 = dt 79 12 by omega]; exact hbb)) (by omega) hz ht hc hi hn5  (by first | trivial | omega) (by first | trivial | omega)) ?_
      rintro _ _ ⟨dt8, rfl, hI9, hF10, h7⟩
      refine ⟨rfl, ?_⟩
      have hF11 : Fr [79, 84] dt dt8 := Fr_tr hF hF10 (by decide)
      rcases h7 with ⟨rfl, h7⟩ | ⟨rfl, h7⟩
      · skip
        obtain ⟨h7_0, h7_1, h7_2, h7_3, h7_4⟩ := h7
        have fl12 := RSX_0 h7_0 rfl
        have fe13 : (gC (KF 1 b n) (VF b n) 6) i = (gE (KF 1 b n) (VF b n)) i := (rfl : (gC (KF 1 b n) (VF b n) 6) i = (gC (KF 1 b n) (VF b n) 6) i).trans ((show (gC (KF 1 b n) (VF b n) 6) i = gB ((gE (KF 1 b n) (VF b n)) i) (gR1 (KF 1 b n) (VF b n)) by exact (gC_1 (by omega) (by omega)).trans gC1_R).trans (gB_no fl12.1))
        refine go_ret (k := 3) (r := some (.inl 0)) (w1 := (SH, dt8)) (fun _ => rfl) ?_
        exact ⟨dt8, rfl, hI9, hF11, (Or.inl ⟨rfl, ⟨by first | exact RSX_f fe13 fl12 (by omega) (by omega) | exact RSX_no (k := 1) (j := i) ((rfl : (gC (KF 1 b n) (VF b n) 6) i = (gC (KF 1 b n) (VF b n) 6) i).trans (by show gR1 _ _ _ = _; unfold gR1; rw [if_neg (by omega)])) (by decide) (by omega) (by show _ = ((TP b n i : Nat) : Int); omega), by first | trivial | omega, by first | trivial | omega, by first | trivial | omega, by first | trivial | omega⟩⟩)⟩
      · skip
        obtain ⟨h7_0, h7_1, h7_2, h7_3, h7_4, h7_5, h7_6, h7_7, h7_8, h7_9⟩ := h7
        obtain ⟨j14, ej15, hc16⟩ := RSX_1 h7_0 (by decide)
        have hp17 : (gC (KF 1 b n) (VF b n) 6) i = (gR1 (KF 1 b n) (VF b n)) j14 := (rfl : (gC (KF 1 b n) (VF b n) 6) i = (gC (KF 1 b n) (VF b n) 6) i).trans ((show (gC (KF 1 b n) (VF b n) 6) i = gB ((gE (KF 1 b n) (VF b n)) i) (gR1 (KF 1 b n) (VF b n)) by exact (gC_1 (by omega) (by omega)).trans gC1_R).trans (by rw [ej15]; rfl))
        have hi18 : j14 ≤ t := by have z := gE_M (K := (KF 1 b n)) (V := (VF b n)) (i := i) hz; rw [ej15] at z; have y := z rfl; simp only at y; omega
        have cr19 := CUR_R hc16 (.inr rfl)
        have cb20 := CUR_b hc16
        have cv21 := CUR_v hc16
        have ck22 := KZ_lt (i := j14) hz
        have c123 := (hc16).1
        have ci24 := hi18
        have r25 : (-2147483648) ≤ dt8 79 14 ∧ dt8 79 14 ≤ 2147483647 := InvC_get hI9 79 14 rfl rfl
        refine go_if (k := 5) (p1 := 116) (p2 := 111) (L' := [some (.inr (.inr (some 79))), none]) (st' := []) (w' := (SH, dt8)) (fun _ => rfl) (c_ne (a := dt8 79 14) (b := 160) ⟨by omega, by omega⟩ ⟨by omega, by omega⟩) (fun c26 => ?_) (fun c26 => ?_)
        · skip
          refine go_if (k := 4) (p1 := 131) (p2 := 126) (L' := [some (.inr (.inr (some 79))), none]) (st' := []) (w' := (SH, dt8)) (fun _ => rfl) (c_ne (a := dt8 79 14) (b := 161) ⟨by omega, by omega⟩ ⟨by omega, by omega⟩) (fun c27 => ?_) (fun c27 => ?_)
          · skip
            refine go_if (k := 4) (p1 := 146) (p2 := 141) (L' := [some (.inr (.inr (some 79))), none]) (st' := []) (w' := (SH, dt8)) (fun _ => rfl) (c_ne (a := dt8 79 14) (b := 162) ⟨by omega, by omega⟩ ⟨by omega, by omega⟩) (fun c28 => ?_) (fun c28 => ?_)
            · skip
              refine go_to (k := 7) (pc' := 155) (L' := [some (.inr (.inr (some 79))), some (.inl (-1))]) (st' := [.inl 1, .inr (.inr (some 79))]) (w' := (SH, dt8)) (fun _ => rfl) ?_
              refine go_call (Q' := _) rfl rfl rfl rfl rfl (sp_X6_bad_g L xs sio (d + 27) dt8 hI9  1 ⟨by omega, by omega⟩ ) ?_
              rintro _ _ ⟨dt30, rfl, hI31, hF32, h29⟩
              refine ⟨rfl, ?_⟩
              have hF33 : Fr [79, 84] dt dt30 := Fr_tr hF11 hF32 (by decide)
              rcases h29 with ⟨rfl, h29⟩
              obtain ⟨h29_0, h29_1, h29_2, h29_3, h29_4, h29_5, h29_6, h29_7, h29_8, h29_9, h29_10, h29_11⟩ := h29
              have hc34 : CUR 1 b n dt30 j14 := CUR_sm hc16 (by omega) (by omega) (by omega) (by omega)
              refine go_ret (k := 1) (r := some (.inl 0)) (w1 := (SH, dt30)) (fun _ => rfl) ?_
              exact ⟨dt30, rfl, hI31, hF33, (Or.inl ⟨rfl, ⟨by first | exact RSX_f hI hI (by omega) (by omega) | exact RSX_no (k := 1) (j := j14) (hp17.trans (by show gR1 _ _ _ = _; unfold gR1; rw [if_neg (by omega)])) (by decide) (by omega) (by show _ = ((TP b n j14 : Nat) : Int); omega), by first | trivial | omega, by first | trivial | omega, by first | trivial | omega, by first | trivial | omega⟩⟩)⟩
            · skip
              refine go_to (k := 7) (pc' := 160) (L' := [some (.inr (.inr (some 79))), some (.inl 13)]) (st' := [.inr (.inr (some 79))]) (w' := (SH, dt8)) (fun _ => rfl) ?_
              refine go_call (Q' := _) rfl rfl rfl rfl rfl (sp_X6_next0_p1 L xs sio (d + 21) dt8 hI9   (by first | trivial | omega) (by first | trivial | omega)) ?_
              rintro _ _ ⟨dt36, rfl, hI37, hF38, h35⟩
              refine ⟨rfl, ?_⟩
              have hF39 : Fr [79, 84] dt dt36 := Fr_tr hF11 hF38 (by decide)
              rcases h35 with ⟨rfl, h35⟩
              obtain ⟨h35_0, h35_1, h35_2, h35_3, h35_4, h35_5, h35_6, h35_7, h35_8⟩ := h35
              have hq40 := h35_0
              rw [show dt8 85 = dt 85 from funext (hF11 85 (by decide)), show dt8 79 12 = dt 79 12 by omega, hbb, show (dt 79 12).toNat = n by omega] at hq40
              have hc41 : CUR 1 b n dt36 (j14 + 1) := CUR_n hc16 hq40
              have hi42 : j14 + 1 ≤ t := by omega
              have hp43 : (gC (KF 1 b n) (VF b n) 6) i = (gE (KF 1 b n) (VF b n)) (j14 + 1) := hp17.trans (by show gR1 _ _ j14 = _; unfold gR1; rw [if_pos (by omega)])
              have cr44 := CUR_R hc41 (.inr rfl)
              have cb45 := CUR_b hc41
              have cv46 := CUR_v hc41
              have ck47 := KZ_lt (i := (j14 + 1)) hz
              have c148 := (hc41).1
              have ci49 := hi42
              refine go_to (k := 1) (pc' := 164) (L' := [some (.inr (.inr (some 79))), some (.inl 13)]) (st' := [.inr (.inr (some 79))]) (w' := (SH, dt36)) (fun _ => rfl) ?_
              refine go_call (Q' := _) rfl rfl rfl rfl rfl (sp_X6_sumUp_g L xs sio (d + 18) dt36 hI37 b n t (j14 + 1) (by first | exact hbb | (rw [show dt36 85 = dt 85 from funext (hF39 85 (by decide)), show dt36 79 12 = dt 79 12 by omega]; exact hbb)) (by omega) hz ht hc41 hi42 hn5  (by first | trivial | omega) (by first | trivial | omega)) ?_
              rintro _ _ ⟨dt51, rfl, hI52, hF53, h50⟩
              refine ⟨rfl, ?_⟩
              have hF54 : Fr [79, 84] dt dt51 := Fr_tr hF39 hF53 (by decide)
              rcases h50 with ⟨rfl, h50⟩ | ⟨rfl, h50⟩
              · skip
                obtain ⟨h50_0, h50_1, h50_2, h50_3, h50_4⟩ := h50
                have fl55 := RSX_0 h50_0 rfl
                have fe56 : (gC (KF 1 b n) (VF b n) 6) i = (gE (KF 1 b n) (VF b n)) (j14 + 1) := hp43.trans ((show (gE (KF 1 b n) (VF b n)) (j14 + 1) = gB ((gE (KF 1 b n) (VF b n)) (j14 + 1)) gOk by exact gB_id.symm).trans (gB_no fl55.1))
                refine go_ret (k := 3) (r := some (.inl 0)) (w1 := (SH, dt51)) (fun _ => rfl) ?_
                exact ⟨dt51, rfl, hI52, hF54, (Or.inl ⟨rfl, ⟨by first | exact RSX_f fe56 fl55 (by omega) (by omega) | exact RSX_no (k := 1) (j := (j14 + 1)) (hp43.trans (by show gR1 _ _ _ = _; unfold gR1; rw [if_neg (by omega)])) (by decide) (by omega) (by show _ = ((TP b n (j14 + 1) : Nat) : Int); omega), by first | trivial | omega, by first | trivial | omega, by first | trivial | omega, by first | trivial | omega⟩⟩)⟩
              · skip
                obtain ⟨h50_0, h50_1, h50_2, h50_3, h50_4, h50_5, h50_6, h50_7, h50_8, h50_9⟩ := h50
                obtain ⟨j57, ej58, hc59⟩ := RSX_1 h50_0 (by decide)
                have hp60 : (gC (KF 1 b n) (VF b n) 6) i = gOk j57 := hp43.trans ((show (gE (KF 1 b n) (VF b n)) (j14 + 1) = gB ((gE (KF 1 b n) (VF b n)) (j14 + 1)) gOk by exact gB_id.symm).trans (by rw [ej58]; rfl))
                have hi61 : j57 ≤ t := by have z := gE_M (K := (KF 1 b n)) (V := (VF b n)) (i := (j14 + 1)) hz; rw [ej58] at z; have y := z rfl; simp only at y; omega
                have cr62 := CUR_R hc59 (.inr rfl)
                have cb63 := CUR_b hc59
                have cv64 := CUR_v hc59
                have ck65 := KZ_lt (i := j57) hz
                have c166 := (hc59).1
                have ci67 := hi61
                refine go_to (k := 4) (pc' := 175) (L' := [some (.inr (.inr (some 79))), some (.inl 13)]) (st' := [.inl 0, .inl 13, .inr (.inr (some 79))]) (w' := (SH, dt51)) (fun _ => rfl) ?_
                refine go_call (Q' := _) rfl rfl rfl rfl rfl (sp_X6_lay_g L xs sio (d + 27) dt51 hI52  13 ⟨by omega, by omega⟩ 0 ⟨by omega, by omega⟩ (by first | trivial | omega)) ?_
                rintro _ _ ⟨dt69, rfl, hI70, hF71, h68⟩
                refine ⟨rfl, ?_⟩
                have hF72 : Fr [79, 84] dt dt69 := Fr_tr hF54 hF71 (by decide)
                rcases h68 with ⟨rfl, h68⟩
                obtain ⟨h68_0, h68_1, h68_2, h68_3, h68_4, h68_5, h68_6, h68_7, h68_8, h68_9, h68_10⟩ := h68
                have hc73 : CUR 1 b n dt69 j57 := CUR_sm hc59 (by omega) (by omega) (by omega) (by omega)
                refine go_ret (k := 2) (r := some (.inl 1)) (w1 := (SH, dt69)) (fun _ => rfl) ?_
                exact ⟨dt69, rfl, hI70, hF72, (Or.inr ⟨rfl, ⟨by exact RSX_ok (hp60.trans (by rfl)) hc73, by first | trivial | omega, by first | trivial | omega, by exact (InvC_get (by assumption) 79 15 rfl rfl).2, by first | trivial | omega, by first | trivial | omega, by first | trivial | omega, by first | trivial | omega, by first | trivial | omega, by first | trivial | omega⟩⟩)⟩
          · skip
            refine go_to (k := 7) (pc' := 160) (L' := [some (.inr (.inr (some 79))), some (.inl 12)]) (st' := [.inr (.inr (some 79))]) (w' := (SH, dt8)) (fun _ => rfl) ?_
            refine go_call (Q' := _) rfl rfl rfl rfl rfl (sp_X6_next0_p1 L xs sio (d + 21) dt8 hI9   (by first | trivial | omega) (by first | trivial | omega)) ?_
            rintro _ _ ⟨dt75, rfl, hI76, hF77, h74⟩
            refine ⟨rfl, ?_⟩
            have hF78 : Fr [79, 84] dt dt75 := Fr_tr hF11 hF77 (by decide)
            rcases h74 with ⟨rfl, h74⟩
            obtain ⟨h74_0, h74_1, h74_2, h74_3, h74_4, h74_5, h74_6, h74_7, h74_8⟩ := h74
            have hq79 := h74_0
            rw [show dt8 85 = dt 85 from funext (hF11 85 (by decide)), show dt8 79 12 = dt 79 12 by omega, hbb, show (dt 79 12).toNat = n by omega] at hq79
            have hc80 : CUR 1 b n dt75 (j14 + 1) := CUR_n hc16 hq79
            have hi81 : j14 + 1 ≤ t := by omega
            have hp82 : (gC (KF 1 b n) (VF b n) 6) i = (gE (KF 1 b n) (VF b n)) (j14 + 1) := hp17.trans (by show gR1 _ _ j14 = _; unfold gR1; rw [if_pos (by omega)])
            have cr83 := CUR_R hc80 (.inr rfl)
            have cb84 := CUR_b hc80
            have cv85 := CUR_v hc80
            have ck86 := KZ_lt (i := (j14 + 1)) hz
            have c187 := (hc80).1
            have ci88 := hi81
            refine go_to (k := 1) (pc' := 164) (L' := [some (.inr (.inr (some 79))), some (.inl 12)]) (st' := [.inr (.inr (some 79))]) (w' := (SH, dt75)) (fun _ => rfl) ?_
            refine go_call (Q' := _) rfl rfl rfl rfl rfl (sp_X6_sumUp_g L xs sio (d + 18) dt75 hI76 b n t (j14 + 1) (by first | exact hbb | (rw [show dt75 85 = dt 85 from funext (hF78 85 (by decide)), show dt75 79 12 = dt 79 12 by omega]; exact hbb)) (by omega) hz ht hc80 hi81 hn5  (by first | trivial | omega) (by first | trivial | omega)) ?_
            rintro _ _ ⟨dt90, rfl, hI91, hF92, h89⟩
            refine ⟨rfl, ?_⟩
            have hF93 : Fr [79, 84] dt dt90 := Fr_tr hF78 hF92 (by decide)
            rcases h89 with ⟨rfl, h89⟩ | ⟨rfl, h89⟩
            · skip
              obtain ⟨h89_0, h89_1, h89_2, h89_3, h89_4⟩ := h89
              have fl94 := RSX_0 h89_0 rfl
              have fe95 : (gC (KF 1 b n) (VF b n) 6) i = (gE (KF 1 b n) (VF b n)) (j14 + 1) := hp82.trans ((show (gE (KF 1 b n) (VF b n)) (j14 + 1) = gB ((gE (KF 1 b n) (VF b n)) (j14 + 1)) gOk by exact gB_id.symm).trans (gB_no fl94.1))
              refine go_ret (k := 3) (r := some (.inl 0)) (w1 := (SH, dt90)) (fun _ => rfl) ?_
              exact ⟨dt90, rfl, hI91, hF93, (Or.inl ⟨rfl, ⟨by first | exact RSX_f fe95 fl94 (by omega) (by omega) | exact RSX_no (k := 1) (j := (j14 + 1)) (hp82.trans (by show gR1 _ _ _ = _; unfold gR1; rw [if_neg (by omega)])) (by decide) (by omega) (by show _ = ((TP b n (j14 + 1) : Nat) : Int); omega), by first | trivial | omega, by first | trivial | omega, by first | trivial | omega, by first | trivial | omega⟩⟩)⟩
            · skip
              obtain ⟨h89_0, h89_1, h89_2, h89_3, h89_4, h89_5, h89_6, h89_7, h89_8, h89_9⟩ := h89
              obtain ⟨j96, ej97, hc98⟩ := RSX_1 h89_0 (by decide)
              have hp99 : (gC (KF 1 b n) (VF b n) 6) i = gOk j96 := hp82.trans ((show (gE (KF 1 b n) (VF b n)) (j14 + 1) = gB ((gE (KF 1 b n) (VF b n)) (j14 + 1)) gOk by exact gB_id.symm).trans (by rw [ej97]; rfl))
              have hi100 : j96 ≤ t := by have z := gE_M (K := (KF 1 b n)) (V := (VF b n)) (i := (j14 + 1)) hz; rw [ej97] at z; have y := z rfl; simp only at y; omega
              have cr101 := CUR_R hc98 (.inr rfl)
              have cb102 := CUR_b hc98
              have cv103 := CUR_v hc98
              have ck104 := KZ_lt (i := j96) hz
              have c1105 := (hc98).1
              have ci106 := hi100
              refine go_to (k := 4) (pc' := 175) (L' := [some (.inr (.inr (some 79))), some (.inl 12)]) (st' := [.inl 0, .inl 12, .inr (.inr (some 79))]) (w' := (SH, dt90)) (fun _ => rfl) ?_
              refine go_call (Q' := _) rfl rfl rfl rfl rfl (sp_X6_lay_g L xs sio (d + 27) dt90 hI91  12 ⟨by omega, by omega⟩ 0 ⟨by omega, by omega⟩ (by first | trivial | omega)) ?_
              rintro _ _ ⟨dt108, rfl, hI109, hF110, h107⟩
              refine ⟨rfl, ?_⟩
              have hF111 : Fr [79, 84] dt dt108 := Fr_tr hF93 hF110 (by decide)
              rcases h107 with ⟨rfl, h107⟩
              obtain ⟨h107_0, h107_1, h107_2, h107_3, h107_4, h107_5, h107_6, h107_7, h107_8, h107_9, h107_10⟩ := h107
              have hc112 : CUR 1 b n dt108 j96 := CUR_sm hc98 (by omega) (by omega) (by omega) (by omega)
              refine go_ret (k := 2) (r := some (.inl 1)) (w1 := (SH, dt108)) (fun _ => rfl) ?_
              exact ⟨dt108, rfl, hI109, hF111, (Or.inr ⟨rfl, ⟨by exact RSX_ok (hp99.trans (by rfl)) hc112, by first | trivial | omega, by first | trivial | omega, by exact (InvC_get (by assumption) 79 15 rfl rfl).2, by first | trivial | omega, by first | trivial | omega, by first | trivial | omega, by first | trivial | omega, by first | trivial | omega, by first | trivial | omega⟩⟩)⟩
        · skip
          refine go_to (k := 7) (pc' := 160) (L' := [some (.inr (.inr (some 79))), some (.inl 11)]) (st' := [.inr (.inr (some 79))]) (w' := (SH, dt8)) (fun _ => rfl) ?_
          refine go_call (Q' := _) rfl rfl rfl rfl rfl (sp_X6_next0_p1 L xs sio (d + 21) dt8 hI9   (by first | trivial | omega) (by first | trivial | omega)) ?_
          rintro _ _ ⟨dt114, rfl, hI115, hF116, h113⟩
          refine ⟨rfl, ?_⟩
          have hF117 : Fr [79, 84] dt dt114 := Fr_tr hF11 hF116 (by decide)
          rcases h113 with ⟨rfl, h113⟩
          obtain ⟨h113_0, h113_1, h113_2, h113_3, h113_4, h113_5, h113_6, h113_7, h113_8⟩ := h113
          have hq118 := h113_0
          rw [show dt8 85 = dt 85 from funext (hF11 85 (by decide)), show dt8 79 12 = dt 79 12 by omega, hbb, show (dt 79 12).toNat = n by omega] at hq118
          have hc119 : CUR 1 b n dt114 (j14 + 1) := CUR_n hc16 hq118
          have hi120 : j14 + 1 ≤ t := by omega
          have hp121 : (gC (KF 1 b n) (VF b n) 6) i = (gE (KF 1 b n) (VF b n)) (j14 + 1) := hp17.trans (by show gR1 _ _ j14 = _; unfold gR1; rw [if_pos (by omega)])
          have cr122 := CUR_R hc119 (.inr rfl)
          have cb123 := CUR_b hc119
          have cv124 := CUR_v hc119
          have ck125 := KZ_lt (i := (j14 + 1)) hz
          have c1126 := (hc119).1
          have ci127 := hi120
          refine go_to (k := 1) (pc' := 164) (L' := [some (.inr (.inr (some 79))), some (.inl 11)]) (st' := [.inr (.inr (some 79))]) (w' := (SH, dt114)) (fun _ => rfl) ?_
          refine go_call (Q' := _) rfl rfl rfl rfl rfl (sp_X6_sumUp_g L xs sio (d + 18) dt114 hI115 b n t (j14 + 1) (by first | exact hbb | (rw [show dt114 85 = dt 85 from funext (hF117 85 (by decide)), show dt114 79 12 = dt 79 12 by omega]; exact hbb)) (by omega) hz ht hc119 hi120 hn5  (by first | trivial | omega) (by first | trivial | omega)) ?_
          rintro _ _ ⟨dt129, rfl, hI130, hF131, h128⟩
          refine ⟨rfl, ?_⟩
          have hF132 : Fr [79, 84] dt dt129 := Fr_tr hF117 hF131 (by decide)
          rcases h128 with ⟨rfl, h128⟩ | ⟨rfl, h128⟩
          · skip
            obtain ⟨h128_0, h128_1, h128_2, h128_3, h128_4⟩ := h128
            have fl133 := RSX_0 h128_0 rfl
            have fe134 : (gC (KF 1 b n) (VF b n) 6) i = (gE (KF 1 b n) (VF b n)) (j14 + 1) := hp121.trans ((show (gE (KF 1 b n) (VF b n)) (j14 + 1) = gB ((gE (KF 1 b n) (VF b n)) (j14 + 1)) gOk by exact gB_id.symm).trans (gB_no fl133.1))
            refine go_ret (k := 3) (r := some (.inl 0)) (w1 := (SH, dt129)) (fun _ => rfl) ?_
            exact ⟨dt129, rfl, hI130, hF132, (Or.inl ⟨rfl, ⟨by first | exact RSX_f fe134 fl133 (by omega) (by omega) | exact RSX_no (k := 1) (j := (j14 + 1)) (hp121.trans (by show gR1 _ _ _ = _; unfold gR1; rw [if_neg (by omega)])) (by decide) (by omega) (by show _ = ((TP b n (j14 + 1) : Nat) : Int); omega), by first | trivial | omega, by first | trivial | omega, by first | trivial | omega, by first | trivial | omega⟩⟩)⟩
          · skip
            obtain ⟨h128_0, h128_1, h128_2, h128_3, h128_4, h128_5, h128_6, h128_7, h128_8, h128_9⟩ := h128
            obtain ⟨j135, ej136, hc137⟩ := RSX_1 h128_0 (by decide)
            have hp138 : (gC (KF 1 b n) (VF b n) 6) i = gOk j135 := hp121.trans ((show (gE (KF 1 b n) (VF b n)) (j14 + 1) = gB ((gE (KF 1 b n) (VF b n)) (j14 + 1)) gOk by exact gB_id.symm).trans (by rw [ej136]; rfl))
            have hi139 : j135 ≤ t := by have z := gE_M (K := (KF 1 b n)) (V := (VF b n)) (i := (j14 + 1)) hz; rw [ej136] at z; have y := z rfl; simp only at y; omega
            have cr140 := CUR_R hc137 (.inr rfl)
            have cb141 := CUR_b hc137
            have cv142 := CUR_v hc137
            have ck143 := KZ_lt (i := j135) hz
            have c1144 := (hc137).1
            have ci145 := hi139
            refine go_to (k := 4) (pc' := 175) (L' := [some (.inr (.inr (some 79))), some (.inl 11)]) (st' := [.inl 0, .inl 11, .inr (.inr (some 79))]) (w' := (SH, dt129)) (fun _ => rfl) ?_
            refine go_call (Q' := _) rfl rfl rfl rfl rfl (sp_X6_lay_g L xs sio (d + 27) dt129 hI130  11 ⟨by omega, by omega⟩ 0 ⟨by omega, by omega⟩ (by first | trivial | omega)) ?_
            rintro _ _ ⟨dt147, rfl, hI148, hF149, h146⟩
            refine ⟨rfl, ?_⟩
            have hF150 : Fr [79, 84] dt dt147 := Fr_tr hF132 hF149 (by decide)
            rcases h146 with ⟨rfl, h146⟩
            obtain ⟨h146_0, h146_1, h146_2, h146_3, h146_4, h146_5, h146_6, h146_7, h146_8, h146_9, h146_10⟩ := h146
            have hc151 : CUR 1 b n dt147 j135 := CUR_sm hc137 (by omega) (by omega) (by omega) (by omega)
            refine go_ret (k := 2) (r := some (.inl 1)) (w1 := (SH, dt147)) (fun _ => rfl) ?_
            exact ⟨dt147, rfl, hI148, hF150, (Or.inr ⟨rfl, ⟨by exact RSX_ok (hp138.trans (by rfl)) hc151, by first | trivial | omega, by first | trivial | omega, by exact (InvC_get (by assumption) 79 15 rfl rfl).2, by first | trivial | omega, by first | trivial | omega, by first | trivial | omega, by first | trivial | omega, by first | trivial | omega, by first | trivial | omega⟩⟩)⟩
    · skip
      refine go_to (k := 1) (pc' := 55) (L' := [some (.inr (.inr (some 79))), none]) (st' := [.inr (.inr (some 79))]) (w' := (SH, dt)) (fun _ => rfl) ?_
      refine go_call (Q' := _) rfl rfl rfl rfl rfl (sp_X6_opens_o L xs sio (d + 20) dt hI b n t i (by first | exact hbb | (rw [show dt 85 = dt 85 from funext (hF 85 (by decide)), show dt 79 12 = dt 79 12 by omega]; exact hbb)) (by omega) hz ht hc hi hn5  (by first | trivial | omega) (by first | trivial | omega) (by first | trivial | omega)) ?_
      rintro _ _ ⟨dt153, rfl, hI154, hF155, h152⟩
      refine ⟨rfl, ?_⟩
      have hF156 : Fr [79, 84] dt dt153 := Fr_tr hF hF155 (by decide)
      rcases h152 with ⟨rfl, h152⟩
      obtain ⟨h152_0, h152_1, h152_2, h152_3, h152_4, h152_5, h152_6, h152_7, h152_8, h152_9⟩ := h152
      obtain ⟨j157, ej158, hc159⟩ := RSX_1 h152_0 (by decide)
      have hp160 : (gC (KF 1 b n) (VF b n) 6) i = (fun i => gB (gB_ (KF 1 b n) (VF b n) 5 i) (gK (KF 1 b n) 41)) j157 := (rfl : (gC (KF 1 b n) (VF b n) 6) i = (gC (KF 1 b n) (VF b n) 6) i).trans ((show (gC (KF 1 b n) (VF b n) 6) i = gB (gOp i) (fun i => gB (gB_ (KF 1 b n) (VF b n) 5 i) (gK (KF 1 b n) 41)) by exact gC_p (by omega)).trans (by rw [ej158]; rfl))
      have hi161 : j157 ≤ t := by have z : gOp i = (0, j157) := ej158; have y : i + 1 = j157 := congrArg Prod.snd z; omega
      have cr162 := CUR_R hc159 (.inr rfl)
      have cb163 := CUR_b hc159
      have cv164 := CUR_v hc159
      have ck165 := KZ_lt (i := j157) hz
      have c1166 := (hc159).1
      have ci167 := hi161
      refine go_to (k := 2) (pc' := 62) (L' := [some (.inr (.inr (some 79))), none]) (st' := [.inr (.inr (some 79))]) (w' := (SH, dt153)) (fun _ => rfl) ?_
      refine go_call (Q' := _) rfl rfl rfl rfl rfl (sp_X6_any_g3 L xs sio (d + 0) dt153 hI154 b n t j157 (by first | exact hbb | (rw [show dt153 85 = dt 85 from funext (hF156 85 (by decide)), show dt153 79 12 = dt 79 12 by omega]; exact hbb)) (by omega) hz ht hc159 hi161 hn5  (by first | trivial | omega) (by first | trivial | omega) (by first | trivial | omega)) ?_
      rintro _ _ ⟨dt169, rfl, hI170, hF171, h168⟩
      refine ⟨rfl, ?_⟩
      have hF172 : Fr [79, 84] dt dt169 := Fr_tr hF156 hF171 (by decide)
      rcases h168 with ⟨rfl, h168⟩ | ⟨rfl, h168⟩
      · skip
        obtain ⟨h168_0, h168_1, h168_2, h168_3, h168_4⟩ := h168
        have fl173 := RSX_0 h168_0 rfl
        have fe174 : (gC (KF 1 b n) (VF b n) 6) i = (gB_ (KF 1 b n) (VF b n) 5) j157 := hp160.trans ((show (fun i => gB (gB_ (KF 1 b n) (VF b n) 5 i) (gK (KF 1 b n) 41)) j157 = gB ((gB_ (KF 1 b n) (VF b n) 5) j157) (gK (KF 1 b n) 41) by rfl).trans (gB_no fl173.1))
        refine go_ret (k := 3) (r := some (.inl 0)) (w1 := (SH, dt169)) (fun _ => rfl) ?_
        exact ⟨dt169, rfl, hI170, hF172, (Or.inl ⟨rfl, ⟨by first | exact RSX_f fe174 fl173 (by omega) (by omega) | exact RSX_no (k := 1) (j := j157) (hp160.trans (by show gR1 _ _ _ = _; unfold gR1; rw [if_neg (by omega)])) (by decide) (by omega) (by show _ = ((TP b n j157 : Nat) : Int); omega), by first | trivial | omega, by first | trivial | omega, by first | trivial | omega, by first | trivial | omega⟩⟩)⟩
      · skip
        obtain ⟨h168_0, h168_1, h168_2, h168_3, h168_4, h168_5, h168_6, h168_7, h168_8, h168_9⟩ := h168
        obtain ⟨j175, ej176, hc177⟩ := RSX_1 h168_0 (by decide)
        have hp178 : (gC (KF 1 b n) (VF b n) 6) i = (gK (KF 1 b n) 41) j175 := hp160.trans ((show (fun i => gB (gB_ (KF 1 b n) (VF b n) 5 i) (gK (KF 1 b n) 41)) j157 = gB ((gB_ (KF 1 b n) (VF b n) 5) j157) (gK (KF 1 b n) 41) by rfl).trans (by rw [ej176]; rfl))
        have hi179 : j175 ≤ t := by have z := gB__M (K := (KF 1 b n)) (V := (VF b n)) (d := 5) (i := j157) hz; rw [ej176] at z; have y := z rfl; simp only at y; omega
        have cr180 := CUR_R hc177 (.inr rfl)
        have cb181 := CUR_b hc177
        have cv182 := CUR_v hc177
        have ck183 := KZ_lt (i := j175) hz
        have c1184 := (hc177).1
        have ci185 := hi179
        refine go_to (k := 3) (pc' := 72) (L' := [some (.inr (.inr (some 79))), none]) (st' := [.inl 141, .inr (.inr (some 79))]) (w' := (SH, dt169)) (fun _ => rfl) ?_
        refine go_call (Q' := _) rfl rfl rfl rfl rfl (sp_X6_need0_g1 L xs sio (d + 20) dt169 hI170 b n t j175 (by first | exact hbb | (rw [show dt169 85 = dt 85 from funext (hF172 85 (by decide)), show dt169 79 12 = dt 79 12 by omega]; exact hbb)) (by omega) hz ht hc177 hi179 hn5 141 ⟨by omega, by omega⟩ (by first | trivial | omega)) ?_
        rintro _ _ ⟨dt187, rfl, hI188, hF189, h186⟩
        refine ⟨rfl, ?_⟩
        have hF190 : Fr [79, 84] dt dt187 := Fr_tr hF172 hF189 (by decide)
        rcases h186 with ⟨rfl, h186⟩ | ⟨rfl, h186⟩
        · skip
          obtain ⟨h186_0, h186_1, h186_2, h186_3, h186_4⟩ := h186
          have fl191 := RSX_0 h186_0 rfl
          have fe192 : (gC (KF 1 b n) (VF b n) 6) i = (gK (KF 1 b n) (141 - 100)) j175 := hp178.trans ((show (gK (KF 1 b n) 41) j175 = gB ((gK (KF 1 b n) (141 - 100)) j175) gOk by exact gB_id.symm).trans (gB_no fl191.1))
          refine go_ret (k := 3) (r := some (.inl 0)) (w1 := (SH, dt187)) (fun _ => rfl) ?_
          exact ⟨dt187, rfl, hI188, hF190, (Or.inl ⟨rfl, ⟨by first | exact RSX_f fe192 fl191 (by omega) (by omega) | exact RSX_no (k := 1) (j := j175) (hp178.trans (by show gR1 _ _ _ = _; unfold gR1; rw [if_neg (by omega)])) (by decide) (by omega) (by show _ = ((TP b n j175 : Nat) : Int); omega), by first | trivial | omega, by first | trivial | omega, by first | trivial | omega, by first | trivial | omega⟩⟩)⟩
        · skip
          obtain ⟨h186_0, h186_1, h186_2, h186_3, h186_4, h186_5, h186_6, h186_7, h186_8, h186_9⟩ := h186
          obtain ⟨j193, ej194, hc195⟩ := RSX_1 h186_0 (by decide)
          have hp196 : (gC (KF 1 b n) (VF b n) 6) i = gOk j193 := hp178.trans ((show (gK (KF 1 b n) 41) j175 = gB ((gK (KF 1 b n) (141 - 100)) j175) gOk by exact gB_id.symm).trans (by rw [ej194]; rfl))
          have hi197 : j193 ≤ t := by have z := (fun (h : KZ (KF 1 b n) t) => gK_M (K := (KF 1 b n)) (k := 141 - 100) (i := j175) h (by decide)) hz; rw [ej194] at z; have y := z rfl; simp only at y; omega
          have cr198 := CUR_R hc195 (.inr rfl)
          have cb199 := CUR_b hc195
          have cv200 := CUR_v hc195
          have ck201 := KZ_lt (i := j193) hz
          have c1202 := (hc195).1
          have ci203 := hi197
          have r204 : 0 ≤ dt187 79 20 ∧ dt187 79 20 ≤ 8 := InvC_get hI188 79 20 rfl rfl
          refine go_to (k := 6) (pc' := 87) (L' := [some (.inr (.inr (some 79))), none]) (st' := [.inl ((dt187 79 20) - 1), .inr (.inr (some 79))]) (w' := (SH, dt187)) (fun _ => rfl) ?_
          have hI205 : InvC (u2 dt187 79 20 ((dt187 79 20) - 1)) := InvC_u2 hI188 (lo := 0) (hi := 8) rfl rfl rfl (by omega) (by omega)
          have hF206 : Fr [79, 84] dt (u2 dt187 79 20 ((dt187 79 20) - 1)) := Fr_u2 hF190 (by decide)
          have w207 : (u2 dt187 79 20 ((dt187 79 20) - 1)) 79 2 = dt187 79 2 := rfl
          have w208 : (u2 dt187 79 20 ((dt187 79 20) - 1)) 79 9 = dt187 79 9 := rfl
          have w209 : (u2 dt187 79 20 ((dt187 79 20) - 1)) 79 10 = dt187 79 10 := rfl
          have w210 : (u2 dt187 79 20 ((dt187 79 20) - 1)) 79 11 = dt187 79 11 := rfl
          have w211 : (u2 dt187 79 20 ((dt187 79 20) - 1)) 79 12 = dt187 79 12 := rfl
          have w212 : (u2 dt187 79 20 ((dt187 79 20) - 1)) 79 13 = dt187 79 13 := rfl
          have w213 : (u2 dt187 79 20 ((dt187 79 20) - 1)) 79 14 = dt187 79 14 := rfl
          have w214 : (u2 dt187 79 20 ((dt187 79 20) - 1)) 79 15 = dt187 79 15 := rfl
          have w215 : (u2 dt187 79 20 ((dt187 79 20) - 1)) 79 16 = dt187 79 16 := rfl
          have w216 : (u2 dt187 79 20 ((dt187 79 20) - 1)) 79 17 = dt187 79 17 := rfl
          have w217 : (u2 dt187 79 20 ((dt187 79 20) - 1)) 79 18 = dt187 79 18 := rfl
          have w218 : (u2 dt187 79 20 ((dt187 79 20) - 1)) 79 20 = (dt187 79 20) - 1 := rfl
          have hc219 : CUR 1 b n (u2 dt187 79 20 ((dt187 79 20) - 1)) j193 := CUR_sm hc195 rfl rfl rfl rfl
          refine go_smp (L' := [some (.inr (.inr (some 79))), none]) (st' := []) (w' := (SH, (u2 dt187 79 20 ((dt187 79 20) - 1)))) rfl rfl (s_pf rfl rfl rfl rfl ⟨by omega, by omega⟩) ?_
          refine go_ret (k := 2) (r := some (.inl 1)) (w1 := (SH, (u2 dt187 79 20 ((dt187 79 20) - 1)))) (fun _ => rfl) ?_
          exact ⟨(u2 dt187 79 20 ((dt187 79 20) - 1)), rfl, hI205, hF206, (Or.inr ⟨rfl, ⟨by exact RSX_ok (hp196.trans (by rfl)) hc219, by first | trivial | omega, by first | trivial | omega, by exact (InvC_get (by assumption) 79 15 rfl rfl).2, by first | trivial | omega, by first | trivial | omega, by first | trivial | omega, by first | trivial | omega, by first | trivial | omega, by first | trivial | omega⟩⟩)⟩
  · skip
    refine go_to (k := 1) (pc' := 10) (L' := [some (.inr (.inr (some 79))), none]) (st' := [.inr (.inr (some 79))]) (w' := (SH, dt)) (fun _ => rfl) ?_
    refine go_call (Q' := _) rfl rfl rfl rfl rfl (sp_X6_opens_o L xs sio (d + 20) dt hI b n t i (by first | exact hbb | (rw [show dt 85 = dt 85 from funext (hF 85 (by decide)), show dt 79 12 = dt 79 12 by omega]; exact hbb)) (by omega) hz ht hc hi hn5  (by first | trivial | omega) (by first | trivial | omega) (by first | trivial | omega)) ?_
    rintro _ _ ⟨dt221, rfl, hI222, hF223, h220⟩
    refine ⟨rfl, ?_⟩
    have hF224 : Fr [79, 84] dt dt221 := Fr_tr hF hF223 (by decide)
    rcases h220 with ⟨rfl, h220⟩
    obtain ⟨h220_0, h220_1, h220_2, h220_3, h220_4, h220_5, h220_6, h220_7, h220_8, h220_9⟩ := h220
    obtain ⟨j225, ej226, hc227⟩ := RSX_1 h220_0 (by decide)
    have hp228 : (gC (KF 1 b n) (VF b n) 6) i = (gC (KF 1 b n) (VF b n) 5) j225 := (rfl : (gC (KF 1 b n) (VF b n) 6) i = (gC (KF 1 b n) (VF b n) 6) i).trans ((show (gC (KF 1 b n) (VF b n) 6) i = gB (gOp i) (gC (KF 1 b n) (VF b n) 5) by exact gC_n (by omega)).trans (by rw [ej226]; rfl))
    have hi229 : j225 ≤ t := by have z : gOp i = (0, j225) := ej226; have y : i + 1 = j225 := congrArg Prod.snd z; omega
    have cr230 := CUR_R hc227 (.inr rfl)
    have cb231 := CUR_b hc227
    have cv232 := CUR_v hc227
    have ck233 := KZ_lt (i := j225) hz
    have c1234 := (hc227).1
    have ci235 := hi229
    refine go_to (k := 2) (pc' := 17) (L' := [some (.inr (.inr (some 79))), none]) (st' := [.inr (.inr (some 79))]) (w' := (SH, dt221)) (fun _ => rfl) ?_
    refine go_call (Q' := _) rfl rfl rfl rfl rfl (sp_X6_one_g3 L xs sio (d + 2) dt221 hI222 b n t j225 (by first | exact hbb | (rw [show dt221 85 = dt 85 from funext (hF224 85 (by decide)), show dt221 79 12 = dt 79 12 by omega]; exact hbb)) (by omega) hz ht hc227 hi229 hn5  (by first | trivial | omega) (by first | trivial | omega) (by first | trivial | omega)) ?_
    rintro _ _ ⟨dt237, rfl, hI238, hF239, h236⟩
    refine ⟨rfl, ?_⟩
    have hF240 : Fr [79, 84] dt dt237 := Fr_tr hF224 hF239 (by decide)
    rcases h236 with ⟨rfl, h236⟩ | ⟨rfl, h236⟩
    · skip
      obtain ⟨h236_0, h236_1, h236_2, h236_3, h236_4⟩ := h236
      have fl241 := RSX_0 h236_0 rfl
      have fe242 : (gC (KF 1 b n) (VF b n) 6) i = (gC (KF 1 b n) (VF b n) 5) j225 := hp228.trans ((show (gC (KF 1 b n) (VF b n) 5) j225 = gB ((gC (KF 1 b n) (VF b n) 5) j225) gOk by exact gB_id.symm).trans (gB_no fl241.1))
      refine go_ret (k := 3) (r := some (.inl 0)) (w1 := (SH, dt237)) (fun _ => rfl) ?_
      exact ⟨dt237, rfl, hI238, hF240, (Or.inl ⟨rfl, ⟨by first | exact RSX_f fe242 fl241 (by omega) (by omega) | exact RSX_no (k := 1) (j := j225) (hp228.trans (by show gR1 _ _ _ = _; unfold gR1; rw [if_neg (by omega)])) (by decide) (by omega) (by show _ = ((TP b n j225 : Nat) : Int); omega), by first | trivial | omega, by first | trivial | omega, by first | trivial | omega, by first | trivial | omega⟩⟩)⟩
    · skip
      obtain ⟨h236_0, h236_1, h236_2, h236_3, h236_4, h236_5, h236_6, h236_7, h236_8, h236_9⟩ := h236
      obtain ⟨j243, ej244, hc245⟩ := RSX_1 h236_0 (by decide)
      have hp246 : (gC (KF 1 b n) (VF b n) 6) i = gOk j243 := hp228.trans ((show (gC (KF 1 b n) (VF b n) 5) j225 = gB ((gC (KF 1 b n) (VF b n) 5) j225) gOk by exact gB_id.symm).trans (by rw [ej244]; rfl))
      have hi247 : j243 ≤ t := by have z := (fun (h : KZ (KF 1 b n) t) => gC_M (K := (KF 1 b n)) (V := (VF b n)) h 5 j225) hz; rw [ej244] at z; have y := z rfl; simp only at y; omega
      have cr248 := CUR_R hc245 (.inr rfl)
      have cb249 := CUR_b hc245
      have cv250 := CUR_v hc245
      have ck251 := KZ_lt (i := j243) hz
      have c1252 := (hc245).1
      have ci253 := hi247
      have r254 : 0 ≤ dt237 79 20 ∧ dt237 79 20 ≤ 8 := InvC_get hI238 79 20 rfl rfl
      refine go_to (k := 6) (pc' := 32) (L' := [some (.inr (.inr (some 79))), none]) (st' := [.inl ((dt237 79 20) - 1), .inr (.inr (some 79))]) (w' := (SH, dt237)) (fun _ => rfl) ?_
      have hI255 : InvC (u2 dt237 79 20 ((dt237 79 20) - 1)) := InvC_u2 hI238 (lo := 0) (hi := 8) rfl rfl rfl (by omega) (by omega)
      have hF256 : Fr [79, 84] dt (u2 dt237 79 20 ((dt237 79 20) - 1)) := Fr_u2 hF240 (by decide)
      have w257 : (u2 dt237 79 20 ((dt237 79 20) - 1)) 79 2 = dt237 79 2 := rfl
      have w258 : (u2 dt237 79 20 ((dt237 79 20) - 1)) 79 9 = dt237 79 9 := rfl
      have w259 : (u2 dt237 79 20 ((dt237 79 20) - 1)) 79 10 = dt237 79 10 := rfl
      have w260 : (u2 dt237 79 20 ((dt237 79 20) - 1)) 79 11 = dt237 79 11 := rfl
      have w261 : (u2 dt237 79 20 ((dt237 79 20) - 1)) 79 12 = dt237 79 12 := rfl
      have w262 : (u2 dt237 79 20 ((dt237 79 20) - 1)) 79 13 = dt237 79 13 := rfl
      have w263 : (u2 dt237 79 20 ((dt237 79 20) - 1)) 79 14 = dt237 79 14 := rfl
      have w264 : (u2 dt237 79 20 ((dt237 79 20) - 1)) 79 15 = dt237 79 15 := rfl
      have w265 : (u2 dt237 79 20 ((dt237 79 20) - 1)) 79 16 = dt237 79 16 := rfl
      have w266 : (u2 dt237 79 20 ((dt237 79 20) - 1)) 79 17 = dt237 79 17 := rfl
      have w267 : (u2 dt237 79 20 ((dt237 79 20) - 1)) 79 18 = dt237 79 18 := rfl
      have w268 : (u2 dt237 79 20 ((dt237 79 20) - 1)) 79 20 = (dt237 79 20) - 1 := rfl
      have hc269 : CUR 1 b n (u2 dt237 79 20 ((dt237 79 20) - 1)) j243 := CUR_sm hc245 rfl rfl rfl rfl
      refine go_smp (L' := [some (.inr (.inr (some 79))), none]) (st' := []) (w' := (SH, (u2 dt237 79 20 ((dt237 79 20) - 1)))) rfl rfl (s_pf rfl rfl rfl rfl ⟨by omega, by omega⟩) ?_
      refine go_to (k := 3) (pc' := 39) (L' := [some (.inr (.inr (some 79))), none]) (st' := [.inl 0, .inl 14, .inr (.inr (some 79))]) (w' := (SH, (u2 dt237 79 20 ((dt237 79 20) - 1)))) (fun _ => rfl) ?_
      refine go_call (Q' := _) rfl rfl rfl rfl rfl (sp_X6_lay_g L xs sio (d + 27) (u2 dt237 79 20 ((dt237 79 20) - 1)) hI255  14 ⟨by omega, by omega⟩ 0 ⟨by omega, by omega⟩ (by first | trivial | omega)) ?_
      rintro _ _ ⟨dt271, rfl, hI272, hF273, h270⟩
      refine ⟨rfl, ?_⟩
      have hF274 : Fr [79, 84] dt dt271 := Fr_tr hF256 hF273 (by decide)
      rcases h270 with ⟨rfl, h270⟩
      obtain ⟨h270_0, h270_1, h270_2, h270_3, h270_4, h270_5, h270_6, h270_7, h270_8, h270_9, h270_10⟩ := h270
      have hc275 : CUR 1 b n dt271 j243 := CUR_sm hc269 (by omega) (by omega) (by omega) (by omega)
      refine go_ret (k := 2) (r := some (.inl 1)) (w1 := (SH, dt271)) (fun _ => rfl) ?_
      exact ⟨dt271, rfl, hI272, hF274, (Or.inr ⟨rfl, ⟨by exact RSX_ok (hp246.trans (by rfl)) hc275, by first | trivial | omega, by first | trivial | omega, by exact (InvC_get (by assumption) 79 15 rfl rfl).2, by first | trivial | omega, by first | trivial | omega, by first | trivial | omega, by first | trivial | omega, by first | trivial | omega, by first | trivial | omega⟩⟩)⟩
set_option maxHeartbeats 8000000 in
set_option maxRecDepth 20000 in
theorem sp_X6_every_g2 (L : Nat) (xs : Nat → Int32) (sio : Option Nat) (d : Nat) (dt : Nat → Nat → Int) (hI : InvC dt) (b : Nat → Int) (n t i : Nat) (hbb : mB (dt 85) (dt 79 12) = b) (hnn : dt 79 12 = (n : Int)) (hz : KZ (KF 1 b n) t) (ht : t ≤ 500) (hc : CUR 1 b n dt i) (hi : i ≤ t) (hn5 : n ≤ 500)  (h_p0 : dt 79 9 = 1) (h_p1 : dt 79 11 ≤ dt 79 15) (h_p2 : dt 79 20 = 2) : GO (am_XX L xs sio) (d + 29) 169 0 [some (.inr (.inr (some 79)))] [] (SH, dt) (fun r w2 => ∃ dt2 : Nat → Nat → Int, w2 = (SH, dt2) ∧ InvC dt2 ∧ Fr [79, 84] dt dt2 ∧ ((r = some (.inl 0) ∧ (RSX 1 b n i dt2 0 ((gEv (KF 1 b n) (VF b n) 6) i)) ∧ (dt2 79 2 = dt 79 2) ∧ (dt2 79 9 = dt 79 9) ∧ (dt2 79 10 = dt 79 10) ∧ (dt2 79 12 = dt 79 12)) ∨ (r = some (.inl 1) ∧ (RSX 1 b n i dt2 1 ((gEv (KF 1 b n) (VF b n) 6) i)) ∧ (dt 79 15 + dt2 79 11 ≤ dt2 79 15 + dt 79 11) ∧ (dt 79 11 + 1 ≤ dt2 79 11) ∧ (dt2 79 15 ≤ 500) ∧ (dt2 79 2 = dt 79 2) ∧ (dt2 79 9 = dt 79 9) ∧ (dt2 79 10 = dt 79 10) ∧ (dt2 79 12 = dt 79 12) ∧ (dt2 79 17 = dt 79 17) ∧ (dt2 79 20 = dt 79 20)))) := by
  have hF : Fr [79, 84] dt dt := Fr_refl
  have r1 : 0 ≤ dt 79 15 ∧ dt 79 15 ≤ 500 := InvC_get hI 79 15 rfl rfl
  have r2 : 0 ≤ dt 79 11 ∧ dt 79 11 ≤ 510 := InvC_get hI 79 11 rfl rfl
  have r3 : 0 ≤ dt 79 10 ∧ dt 79 10 ≤ 24 := InvC_get hI 79 10 rfl rfl
  have cr0 := CUR_R hc (.inr rfl)
  have cb0 := CUR_b hc
  have cv0 := CUR_v hc
  have ck0 := KZ_lt (i := i) hz
  have c10 := hc.1
  refine go_to (k := 1) (pc' := 1) (L' := [some (.inr (.inr (some 79)))]) (st' := [.inr (.inr (some 79))]) (w' := (SH, dt)) (fun _ => rfl) ?_
  refine go_call (Q' := _) rfl rfl rfl rfl rfl (sp_X6_one_g2 L xs sio (d + 0) dt hI b n t i (by first | exact hbb | (rw [show dt 85 = dt 85 from funext (hF 85 (by decide)), show dt 79 12 = dt 79 12 by omega]; exact hbb)) (by omega) hz ht hc hi hn5  (by first | trivial | omega) (by first | trivial | omega) (by first | trivial | omega)) ?_
  rintro _ _ ⟨dt5, rfl, hI6, hF7, h4⟩
  refine ⟨rfl, ?_⟩
  have hF8 : Fr [79, 84] dt dt5 := Fr_tr hF hF7 (by decide)
  rcases h4 with ⟨rfl, h4⟩ | ⟨rfl, h4⟩
  · skip
    obtain ⟨h4_0, h4_1, h4_2, h4_3, h4_4⟩ := h4
    have fl9 := RSX_0 h4_0 rfl
    have fe10 : (gEv (KF 1 b n) (VF b n) 6) i = (gC (KF 1 b n) (VF b n) 6) i := (rfl : (gEv (KF 1 b n) (VF b n) 6) i = (gEv (KF 1 b n) (VF b n) 6) i).trans ((show (gEv (KF 1 b n) (VF b n) 6) i = gB ((gC (KF 1 b n) (VF b n) 6) i) (gN (KF 1 b n) (gC (KF 1 b n) (VF b n) 6) 600) by rfl).trans (gB_no fl9.1))
    refine go_ret (k := 3) (r := some (.inl 0)) (w1 := (SH, dt5)) (fun _ => rfl) ?_
    exact ⟨dt5, rfl, hI6, hF8, (Or.inl ⟨rfl, ⟨by exact RSX_f fe10 fl9 (by omega) (by omega), by first | trivial | omega, by first | trivial | omega, by first | trivial | omega, by first | trivial | omega⟩⟩)⟩
  · skip
    obtain ⟨h4_0, h4_1, h4_2, h4_3, h4_4, h4_5, h4_6, h4_7, h4_8, h4_9⟩ := h4
    obtain ⟨j11, ej12, hc13⟩ := RSX_1 h4_0 (by decide)
    have hp14 : (gEv (KF 1 b n) (VF b n) 6) i = (gN (KF 1 b n) (gC (KF 1 b n) (VF b n) 6) 600) j11 := (rfl : (gEv (KF 1 b n) (VF b n) 6) i = (gEv (KF 1 b n) (VF b n) 6) i).trans ((show (gEv (KF 1 b n) (VF b n) 6) i = gB ((gC (KF 1 b n) (VF b n) 6) i) (gN (KF 1 b n) (gC (KF 1 b n) (VF b n) 6) 600) by rfl).trans (by rw [ej12]; rfl))
    have hi15 : j11 ≤ t := by have z := (fun (h : KZ (KF 1 b n) t) => gC_M (K := (KF 1 b n)) (V := (VF b n)) h 6 i) hz; rw [ej12] at z; have y := z rfl; simp only at y; omega
    have cr16 := CUR_R hc13 (.inr rfl)
    have cb17 := CUR_b hc13
    have cv18 := CUR_v hc13
    have ck19 := KZ_lt (i := j11) hz
    have c120 := (hc13).1
    have ci21 := hi15
    refine go_to (k := 1) (pc' := 9) (L' := [some (.inr (.inr (some 79)))]) (st' := []) (w' := (SH, dt5)) (fun _ => rfl) ?_
    have loop77 : ∀ (k_ : Nat) (dt64 : Nat → Nat → Int) (hI65 : InvC dt64) (hF66 : Fr [79, 84] dt dt64) (i67 : ∃ q : Nat, (gEv (KF 1 b n) (VF b n) 6) i = (gN (KF 1 b n) (gC (KF 1 b n) (VF b n) 6) 600) q ∧ CUR 1 b n dt64 q ∧ q ≤ t) (i68 : dt 79 15 + dt64 79 11 ≤ dt64 79 15 + dt 79 11) (i69 : dt 79 11 + 1 ≤ dt64 79 11) (i70 : dt64 79 15 ≤ 500) (i71 : dt64 79 2 = dt 79 2) (i72 : dt64 79 9 = dt 79 9) (i73 : dt64 79 10 = dt 79 10) (i74 : dt64 79 12 = dt 79 12) (i75 : dt64 79 17 = dt 79 17) (i76 : dt64 79 20 = dt 79 20), (502 - dt64 79 15).toNat < k_ → GO (am_XX L xs sio) (d + 29) 169 9 [some (.inr (.inr (some 79)))] [] (SH, dt64) (fun r w2 => ∃ dt2 : Nat → Nat → Int, w2 = (SH, dt2) ∧ InvC dt2 ∧ Fr [79, 84] dt dt2 ∧ ((r = some (.inl 0) ∧ (RSX 1 b n i dt2 0 ((gEv (KF 1 b n) (VF b n) 6) i)) ∧ (dt2 79 2 = dt 79 2) ∧ (dt2 79 9 = dt 79 9) ∧ (dt2 79 10 = dt 79 10) ∧ (dt2 79 12 = dt 79 12)) ∨ (r = some (.inl 1) ∧ (RSX 1 b n i dt2 1 ((gEv (KF 1 b n) (VF b n) 6) i)) ∧ (dt 79 15 + dt2 79 11 ≤ dt2 79 15 + dt 79 11) ∧ (dt 79 11 + 1 ≤ dt2 79 11) ∧ (dt2 79 15 ≤ 500) ∧ (dt2 79 2 = dt 79 2) ∧ (dt2 79 9 = dt 79 9) ∧ (dt2 79 10 = dt 79 10) ∧ (dt2 79 12 = dt 79 12) ∧ (dt2 79 17 = dt 79 17) ∧ (dt2 79 20 = dt 79 20)))) := by
      intro k_
      induction k_ with
      | zero => intro dt64 hI65 hF66 i67 i68 i69 i70 i71 i72 i73 i74 i75 i76 hm; exact absurd hm (Nat.not_lt_zero _)
      | succ k_ ih_loop77 =>
        intro dt64 hI65 hF66 i67 i68 i69 i70 i71 i72 i73 i74 i75 i76 hm
        obtain ⟨gq, hpq, hcq, hiq⟩ := i67
        have crq := CUR_R hcq (.inr rfl)
        have cbq := CUR_b hcq
        have cvq := CUR_v hcq
        have ckq := KZ_lt (i := gq) hz
        have c1q := hcq.1
        have r78 : (-2147483648) ≤ dt64 79 14 ∧ dt64 79 14 ≤ 2147483647 := InvC_get hI65 79 14 rfl rfl
        refine go_if (k := 4) (p1 := 40) (p2 := 17) (L' := [some (.inr (.inr (some 79)))]) (st' := []) (w' := (SH, dt64)) (fun _ => rfl) (c_ne (a := dt64 79 14) (b := 5) ⟨by omega, by omega⟩ ⟨by omega, by omega⟩) (fun c79 => ?_) (fun c79 => ?_)
        · skip
          refine go_ret (k := 2) (r := some (.inl 1)) (w1 := (SH, dt64)) (fun _ => rfl) ?_
          exact ⟨dt64, rfl, hI65, hF66, (Or.inr ⟨rfl, ⟨by exact RSX_ok (hpq.trans (by show gN _ _ 600 gq = _; rw [gN_u (gC_M hz _) (by omega) (by omega), if_neg (by omega)])) hcq, by first | trivial | omega, by first | trivial | omega, by exact (InvC_get (by assumption) 79 15 rfl rfl).2, by first | trivial | omega, by first | trivial | omega, by first | trivial | omega, by first | trivial | omega, by first | trivial | omega, by first | trivial | omega⟩⟩)⟩
        · skip
          refine go_to (k := 1) (pc' := 18) (L' := [some (.inr (.inr (some 79)))]) (st' := [.inr (.inr (some 79))]) (w' := (SH, dt64)) (fun _ => rfl) ?_
          refine go_call (Q' := _) rfl rfl rfl rfl rfl (sp_X6_next0_p1 L xs sio (d + 22) dt64 hI65   (by first | trivial | omega) (by first | trivial | omega)) ?_
          rintro _ _ ⟨dt81, rfl, hI82, hF83, h80⟩
          refine ⟨rfl, ?_⟩
          have hF84 : Fr [79, 84] dt dt81 := Fr_tr hF66 hF83 (by decide)
          rcases h80 with ⟨rfl, h80⟩
          obtain ⟨h80_0, h80_1, h80_2, h80_3, h80_4, h80_5, h80_6, h80_7, h80_8⟩ := h80
          have hq85 := h80_0
          rw [show dt64 85 = dt 85 from funext (hF66 85 (by decide)), show dt64 79 12 = dt 79 12 by omega, hbb, show (dt 79 12).toNat = n by omega] at hq85
          have hc86 : CUR 1 b n dt81 (gq + 1) := CUR_n hcq hq85
          have hi87 : gq + 1 ≤ t := by omega
          have hp88 : (gEv (KF 1 b n) (VF b n) 6) i = (fun i => gB (gC (KF 1 b n) (VF b n) 6 i) (gN (KF 1 b n) (gC (KF 1 b n) (VF b n) 6) 600)) (gq + 1) := hpq.trans (by show gN _ _ 600 gq = _; rw [gN_u (gC_M hz _) (by omega) (by omega)]; first | (rw [if_pos (by omega)]; done) | (rw [if_pos (by omega)]; rfl))
          have cr89 := CUR_R hc86 (.inr rfl)
          have cb90 := CUR_b hc86
          have cv91 := CUR_v hc86
          have ck92 := KZ_lt (i := (gq + 1)) hz
          have c193 := (hc86).1
          have ci94 := hi87
          refine go_to (k := 1) (pc' := 22) (L' := [some (.inr (.inr (some 79)))]) (st' := [.inr (.inr (some 79))]) (w' := (SH, dt81)) (fun _ => rfl) ?_
          refine go_call (Q' := _) rfl rfl rfl rfl rfl (sp_X6_one_g2 L xs sio (d + 0) dt81 hI82 b n t (gq + 1) (by first | exact hbb | (rw [show dt81 85 = dt 85 from funext (hF84 85 (by decide)), show dt81 79 12 = dt 79 12 by omega]; exact hbb)) (by omega) hz ht hc86 hi87 hn5  (by first | trivial | omega) (by first | trivial | omega) (by first | trivial | omega)) ?_
          rintro _ _ ⟨dt96, rfl, hI97, hF98, h95⟩
          refine ⟨rfl, ?_⟩
          have hF99 : Fr [79, 84] dt dt96 := Fr_tr hF84 hF98 (by decide)
          rcases h95 with ⟨rfl, h95⟩ | ⟨rfl, h95⟩
          · skip
            obtain ⟨h95_0, h95_1, h95_2, h95_3, h95_4⟩ := h95
            have fl100 := RSX_0 h95_0 rfl
            have fe101 : (gEv (KF 1 b n) (VF b n) 6) i = (gC (KF 1 b n) (VF b n) 6) (gq + 1) := hp88.trans ((show (fun i => gB (gC (KF 1 b n) (VF b n) 6 i) (gN (KF 1 b n) (gC (KF 1 b n) (VF b n) 6) 600)) (gq + 1) = gB ((gC (KF 1 b n) (VF b n) 6) (gq + 1)) (gN (KF 1 b n) (gC (KF 1 b n) (VF b n) 6) 600) by rfl).trans (gB_no fl100.1))
            refine go_ret (k := 3) (r := some (.inl 0)) (w1 := (SH, dt96)) (fun _ => rfl) ?_
            exact ⟨dt96, rfl, hI97, hF99, (Or.inl ⟨rfl, ⟨by exact RSX_f fe101 fl100 (by omega) (by omega), by first | trivial | omega, by first | trivial | omega, by first | trivial | omega, by first | trivial | omega⟩⟩)⟩
          · skip
            obtain ⟨h95_0, h95_1, h95_2, h95_3, h95_4, h95_5, h95_6, h95_7, h95_8, h95_9⟩ := h95
            obtain ⟨j102, ej103, hc104⟩ := RSX_1 h95_0 (by decide)
            have hp105 : (gEv (KF 1 b n) (VF b n) 6) i = (gN (KF 1 b n) (gC (KF 1 b n) (VF b n) 6) 600) j102 := hp88.trans ((show (fun i => gB (gC (KF 1 b n) (VF b n) 6 i) (gN (KF 1 b n) (gC (KF 1 b n) (VF b n) 6) 600)) (gq + 1) = gB ((gC (KF 1 b n) (VF b n) 6) (gq + 1)) (gN (KF 1 b n) (gC (KF 1 b n) (VF b n) 6) 600) by rfl).trans (by rw [ej103]; rfl))
            have hi106 : j102 ≤ t := by have z := (fun (h : KZ (KF 1 b n) t) => gC_M (K := (KF 1 b n)) (V := (VF b n)) h 6 (gq + 1)) hz; rw [ej103] at z; have y := z rfl; simp only at y; omega
            have cr107 := CUR_R hc104 (.inr rfl)
            have cb108 := CUR_b hc104
            have cv109 := CUR_v hc104
            have ck110 := KZ_lt (i := j102) hz
            have c1111 := (hc104).1
            have ci112 := hi106
            refine go_to (k := 4) (pc' := 34) (L' := [some (.inr (.inr (some 79)))]) (st' := [.inl 0, .inl 15, .inr (.inr (some 79))]) (w' := (SH, dt96)) (fun _ => rfl) ?_
            refine go_call (Q' := _) rfl rfl rfl rfl rfl (sp_X6_lay_g L xs sio (d + 28) dt96 hI97  15 ⟨by omega, by omega⟩ 0 ⟨by omega, by omega⟩ (by first | trivial | omega)) ?_
            rintro _ _ ⟨dt114, rfl, hI115, hF116, h113⟩
            refine ⟨rfl, ?_⟩
            have hF117 : Fr [79, 84] dt dt114 := Fr_tr hF99 hF116 (by decide)
            rcases h113 with ⟨rfl, h113⟩
            obtain ⟨h113_0, h113_1, h113_2, h113_3, h113_4, h113_5, h113_6, h113_7, h113_8, h113_9, h113_10⟩ := h113
            have hc118 : CUR 1 b n dt114 j102 := CUR_sm hc104 (by omega) (by omega) (by omega) (by omega)
            refine go_to (k := 1) (pc' := 9) (L' := [some (.inr (.inr (some 79)))]) (st' := []) (w' := (SH, dt114)) (fun _ => rfl) ?_
            exact GO.le (ih_loop77  dt114 hI115 hF117 (by first | omega | exact ⟨_, hp105, hc118, hi106⟩) (by first | omega | exact ⟨_, hp105, hc118, hi106⟩) (by first | omega | exact ⟨_, hp105, hc118, hi106⟩) (by first | omega | exact ⟨_, hp105, hc118, hi106⟩) (by first | omega | exact ⟨_, hp105, hc118, hi106⟩) (by first | omega | exact ⟨_, hp105, hc118, hi106⟩) (by first | omega | exact ⟨_, hp105, hc118, hi106⟩) (by first | omega | exact ⟨_, hp105, hc118, hi106⟩) (by first | omega | exact ⟨_, hp105, hc118, hi106⟩) (by first | omega | exact ⟨_, hp105, hc118, hi106⟩) (by omega)) ⟨.inl rfl, trivial⟩
    exact GO.le (loop77 _  dt5 hI6 hF8 (by first | omega | exact ⟨_, hp14, hc13, hi15⟩) (by first | omega | exact ⟨_, hp14, hc13, hi15⟩) (by first | omega | exact ⟨_, hp14, hc13, hi15⟩) (by first | omega | exact ⟨_, hp14, hc13, hi15⟩) (by first | omega | exact ⟨_, hp14, hc13, hi15⟩) (by first | omega | exact ⟨_, hp14, hc13, hi15⟩) (by first | omega | exact ⟨_, hp14, hc13, hi15⟩) (by first | omega | exact ⟨_, hp14, hc13, hi15⟩) (by first | omega | exact ⟨_, hp14, hc13, hi15⟩) (by first | omega | exact ⟨_, hp14, hc13, hi15⟩) (Nat.lt_succ_self _)) ⟨.inl rfl, trivial⟩
set_option maxHeartbeats 8000000 in
set_option maxRecDepth 20000 in
theorem sp_X6_any_g2 (L : Nat) (xs : Nat → Int32) (sio : Option Nat) (d : Nat) (dt : Nat → Nat → Int) (hI : InvC dt) (b : Nat → Int) (n t i : Nat) (hbb : mB (dt 85) (dt 79 12) = b) (hnn : dt 79 12 = (n : Int)) (hz : KZ (KF 1 b n) t) (ht : t ≤ 500) (hc : CUR 1 b n dt i) (hi : i ≤ t) (hn5 : n ≤ 500)  (h_p0 : dt 79 9 = 1) (h_p1 : dt 79 11 ≤ dt 79 15) (h_p2 : dt 79 20 = 2) : GO (am_XX L xs sio) (d + 30) 168 0 [some (.inr (.inr (some 79)))] [] (SH, dt) (fun r w2 => ∃ dt2 : Nat → Nat → Int, w2 = (SH, dt2) ∧ InvC dt2 ∧ Fr [79, 84] dt dt2 ∧ ((r = some (.inl 0) ∧ (RSX 1 b n i dt2 0 ((gB_ (KF 1 b n) (VF b n) 6) i)) ∧ (dt2 79 2 = dt 79 2) ∧ (dt2 79 9 = dt 79 9) ∧ (dt2 79 10 = dt 79 10) ∧ (dt2 79 12 = dt 79 12)) ∨ (r = some (.inl 1) ∧ (RSX 1 b n i dt2 1 ((gB_ (KF 1 b n) (VF b n) 6) i)) ∧ (dt 79 15 + dt2 79 11 ≤ dt2 79 15 + dt 79 11) ∧ (dt 79 11 + 1 ≤ dt2 79 11) ∧ (dt2 79 15 ≤ 500) ∧ (dt2 79 2 = dt 79 2) ∧ (dt2 79 9 = dt 79 9) ∧ (dt2 79 10 = dt 79 10) ∧ (dt2 79 12 = dt 79 12) ∧ (dt2 79 17 = dt 79 17) ∧ (dt2 79 20 = dt 79 20)))) := by
  have hF : Fr [79, 84] dt dt := Fr_refl
  have r1 : 0 ≤ dt 79 15 ∧ dt 79 15 ≤ 500 := InvC_get hI 79 15 rfl rfl
  have r2 : 0 ≤ dt 79 11 ∧ dt 79 11 ≤ 510 := InvC_get hI 79 11 rfl rfl
  have r3 : 0 ≤ dt 79 10 ∧ dt 79 10 ≤ 24 := InvC_get hI 79 10 rfl rfl
  have cr0 := CUR_R hc (.inr rfl)
  have cb0 := CUR_b hc
  have cv0 := CUR_v hc
  have ck0 := KZ_lt (i := i) hz
  have c10 := hc.1
  refine go_to (k := 1) (pc' := 1) (L' := [some (.inr (.inr (some 79)))]) (st' := [.inr (.inr (some 79))]) (w' := (SH, dt)) (fun _ => rfl) ?_
  refine go_call (Q' := _) rfl rfl rfl rfl rfl (sp_X6_every_g2 L xs sio (d + 0) dt hI b n t i (by first | exact hbb | (rw [show dt 85 = dt 85 from funext (hF 85 (by decide)), show dt 79 12 = dt 79 12 by omega]; exact hbb)) (by omega) hz ht hc hi hn5  (by first | trivial | omega) (by first | trivial | omega) (by first | trivial | omega)) ?_
  rintro _ _ ⟨dt5, rfl, hI6, hF7, h4⟩
  refine ⟨rfl, ?_⟩
  have hF8 : Fr [79, 84] dt dt5 := Fr_tr hF hF7 (by decide)
  rcases h4 with ⟨rfl, h4⟩ | ⟨rfl, h4⟩
  · skip
    obtain ⟨h4_0, h4_1, h4_2, h4_3, h4_4⟩ := h4
    have fl9 := RSX_0 h4_0 rfl
    have fe10 : (gB_ (KF 1 b n) (VF b n) 6) i = (gEv (KF 1 b n) (VF b n) 6) i := (rfl : (gB_ (KF 1 b n) (VF b n) 6) i = (gB_ (KF 1 b n) (VF b n) 6) i).trans ((show (gB_ (KF 1 b n) (VF b n) 6) i = gB ((gEv (KF 1 b n) (VF b n) 6) i) (gO (KF 1 b n) (gC (KF 1 b n) (VF b n) 6) 600) by exact gB_NO' hz (by omega)).trans (gB_no fl9.1))
    refine go_ret (k := 3) (r := some (.inl 0)) (w1 := (SH, dt5)) (fun _ => rfl) ?_
    exact ⟨dt5, rfl, hI6, hF8, (Or.inl ⟨rfl, ⟨by exact RSX_f fe10 fl9 (by omega) (by omega), by first | trivial | omega, by first | trivial | omega, by first | trivial | omega, by first | trivial | omega⟩⟩)⟩
  · skip
    obtain ⟨h4_0, h4_1, h4_2, h4_3, h4_4, h4_5, h4_6, h4_7, h4_8, h4_9⟩ := h4
    obtain ⟨j11, ej12, hc13⟩ := RSX_1 h4_0 (by decide)
    have hp14 : (gB_ (KF 1 b n) (VF b n) 6) i = (gO (KF 1 b n) (gC (KF 1 b n) (VF b n) 6) 600) j11 := (rfl : (gB_ (KF 1 b n) (VF b n) 6) i = (gB_ (KF 1 b n) (VF b n) 6) i).trans ((show (gB_ (KF 1 b n) (VF b n) 6) i = gB ((gEv (KF 1 b n) (VF b n) 6) i) (gO (KF 1 b n) (gC (KF 1 b n) (VF b n) 6) 600) by exact gB_NO' hz (by omega)).trans (by rw [ej12]; rfl))
    have hi15 : j11 ≤ t := by have z := gEv_M (K := (KF 1 b n)) (V := (VF b n)) (d := 6) (i := i) hz; rw [ej12] at z; have y := z rfl; simp only at y; omega
    have cr16 := CUR_R hc13 (.inr rfl)
    have cb17 := CUR_b hc13
    have cv18 := CUR_v hc13
    have ck19 := KZ_lt (i := j11) hz
    have c120 := (hc13).1
    have ci21 := hi15
    refine go_to (k := 1) (pc' := 9) (L' := [some (.inr (.inr (some 79)))]) (st' := []) (w' := (SH, dt5)) (fun _ => rfl) ?_
    have loop77 : ∀ (k_ : Nat) (dt64 : Nat → Nat → Int) (hI65 : InvC dt64) (hF66 : Fr [79, 84] dt dt64) (i67 : ∃ q : Nat, (gB_ (KF 1 b n) (VF b n) 6) i = (gO (KF 1 b n) (gC (KF 1 b n) (VF b n) 6) 600) q ∧ CUR 1 b n dt64 q ∧ q ≤ t) (i68 : dt 79 15 + dt64 79 11 ≤ dt64 79 15 + dt 79 11) (i69 : dt 79 11 + 1 ≤ dt64 79 11) (i70 : dt64 79 15 ≤ 500) (i71 : dt64 79 2 = dt 79 2) (i72 : dt64 79 9 = dt 79 9) (i73 : dt64 79 10 = dt 79 10) (i74 : dt64 79 12 = dt 79 12) (i75 : dt64 79 17 = dt 79 17) (i76 : dt64 79 20 = dt 79 20), (502 - dt64 79 15).toNat < k_ → GO (am_XX L xs sio) (d + 30) 168 9 [some (.inr (.inr (some 79)))] [] (SH, dt64) (fun r w2 => ∃ dt2 : Nat → Nat → Int, w2 = (SH, dt2) ∧ InvC dt2 ∧ Fr [79, 84] dt dt2 ∧ ((r = some (.inl 0) ∧ (RSX 1 b n i dt2 0 ((gB_ (KF 1 b n) (VF b n) 6) i)) ∧ (dt2 79 2 = dt 79 2) ∧ (dt2 79 9 = dt 79 9) ∧ (dt2 79 10 = dt 79 10) ∧ (dt2 79 12 = dt 79 12)) ∨ (r = some (.inl 1) ∧ (RSX 1 b n i dt2 1 ((gB_ (KF 1 b n) (VF b n) 6) i)) ∧ (dt 79 15 + dt2 79 11 ≤ dt2 79 15 + dt 79 11) ∧ (dt 79 11 + 1 ≤ dt2 79 11) ∧ (dt2 79 15 ≤ 500) ∧ (dt2 79 2 = dt 79 2) ∧ (dt2 79 9 = dt 79 9) ∧ (dt2 79 10 = dt 79 10) ∧ (dt2 79 12 = dt 79 12) ∧ (dt2 79 17 = dt 79 17) ∧ (dt2 79 20 = dt 79 20)))) := by
      intro k_
      induction k_ with
      | zero => intro dt64 hI65 hF66 i67 i68 i69 i70 i71 i72 i73 i74 i75 i76 hm; exact absurd hm (Nat.not_lt_zero _)
      | succ k_ ih_loop77 =>
        intro dt64 hI65 hF66 i67 i68 i69 i70 i71 i72 i73 i74 i75 i76 hm
        obtain ⟨gq, hpq, hcq, hiq⟩ := i67
        have crq := CUR_R hcq (.inr rfl)
        have cbq := CUR_b hcq
        have cvq := CUR_v hcq
        have ckq := KZ_lt (i := gq) hz
        have c1q := hcq.1
        have r78 : (-2147483648) ≤ dt64 79 14 ∧ dt64 79 14 ≤ 2147483647 := InvC_get hI65 79 14 rfl rfl
        refine go_if (k := 4) (p1 := 40) (p2 := 17) (L' := [some (.inr (.inr (some 79)))]) (st' := []) (w' := (SH, dt64)) (fun _ => rfl) (c_ne (a := dt64 79 14) (b := 4) ⟨by omega, by omega⟩ ⟨by omega, by omega⟩) (fun c79 => ?_) (fun c79 => ?_)
        · skip
          refine go_ret (k := 2) (r := some (.inl 1)) (w1 := (SH, dt64)) (fun _ => rfl) ?_
          exact ⟨dt64, rfl, hI65, hF66, (Or.inr ⟨rfl, ⟨by exact RSX_ok (hpq.trans (by show gO _ _ 600 gq = _; rw [gO_u (gC_M hz _) (by omega) (by omega), if_neg (by omega)])) hcq, by first | trivial | omega, by first | trivial | omega, by exact (InvC_get (by assumption) 79 15 rfl rfl).2, by first | trivial | omega, by first | trivial | omega, by first | trivial | omega, by first | trivial | omega, by first | trivial | omega, by first | trivial | omega⟩⟩)⟩
        · skip
          refine go_to (k := 1) (pc' := 18) (L' := [some (.inr (.inr (some 79)))]) (st' := [.inr (.inr (some 79))]) (w' := (SH, dt64)) (fun _ => rfl) ?_
          refine go_call (Q' := _) rfl rfl rfl rfl rfl (sp_X6_next0_p1 L xs sio (d + 23) dt64 hI65   (by first | trivial | omega) (by first | trivial | omega)) ?_
          rintro _ _ ⟨dt81, rfl, hI82, hF83, h80⟩
          refine ⟨rfl, ?_⟩
          have hF84 : Fr [79, 84] dt dt81 := Fr_tr hF66 hF83 (by decide)
          rcases h80 with ⟨rfl, h80⟩
          obtain ⟨h80_0, h80_1, h80_2, h80_3, h80_4, h80_5, h80_6, h80_7, h80_8⟩ := h80
          have hq85 := h80_0
          rw [show dt64 85 = dt 85 from funext (hF66 85 (by decide)), show dt64 79 12 = dt 79 12 by omega, hbb, show (dt 79 12).toNat = n by omega] at hq85
          have hc86 : CUR 1 b n dt81 (gq + 1) := CUR_n hcq hq85
          have hi87 : gq + 1 ≤ t := by omega
          have hp88 : (gB_ (KF 1 b n) (VF b n) 6) i = (fun i => gB (gEv (KF 1 b n) (VF b n) 6 i) (gO (KF 1 b n) (gC (KF 1 b n) (VF b n) 6) 600)) (gq + 1) := hpq.trans (by show gO _ _ 600 gq = _; rw [gO_u (gC_M hz _) (by omega) (by omega)]; first | (rw [if_pos (by omega)]; done) | (rw [if_pos (by omega)]; rfl))
          have cr89 := CUR_R hc86 (.inr rfl)
          have cb90 := CUR_b hc86
          have cv91 := CUR_v hc86
          have ck92 := KZ_lt (i := (gq + 1)) hz
          have c193 := (hc86).1
          have ci94 := hi87
          refine go_to (k := 1) (pc' := 22) (L' := [some (.inr (.inr (some 79)))]) (st' := [.inr (.inr (some 79))]) (w' := (SH, dt81)) (fun _ => rfl) ?_
          refine go_call (Q' := _) rfl rfl rfl rfl rfl (sp_X6_every_g2 L xs sio (d + 0) dt81 hI82 b n t (gq + 1) (by first | exact hbb | (rw [show dt81 85 = dt 85 from funext (hF84 85 (by decide)), show dt81 79 12 = dt 79 12 by omega]; exact hbb)) (by omega) hz ht hc86 hi87 hn5  (by first | trivial | omega) (by first | trivial | omega) (by first | trivial | omega)) ?_
          rintro _ _ ⟨dt96, rfl, hI97, hF98, h95⟩
          refine ⟨rfl, ?_⟩
          have hF99 : Fr [79, 84] dt dt96 := Fr_tr hF84 hF98 (by decide)
          rcases h95 with ⟨rfl, h95⟩ | ⟨rfl, h95⟩
          · skip
            obtain ⟨h95_0, h95_1, h95_2, h95_3, h95_4⟩ := h95
            have fl100 := RSX_0 h95_0 rfl
            have fe101 : (gB_ (KF 1 b n) (VF b n) 6) i = (gEv (KF 1 b n) (VF b n) 6) (gq + 1) := hp88.trans ((show (fun i => gB (gEv (KF 1 b n) (VF b n) 6 i) (gO (KF 1 b n) (gC (KF 1 b n) (VF b n) 6) 600)) (gq + 1) = gB ((gEv (KF 1 b n) (VF b n) 6) (gq + 1)) (gO (KF 1 b n) (gC (KF 1 b n) (VF b n) 6) 600) by rfl).trans (gB_no fl100.1))
            refine go_ret (k := 3) (r := some (.inl 0)) (w1 := (SH, dt96)) (fun _ => rfl) ?_
            exact ⟨dt96, rfl, hI97, hF99, (Or.inl ⟨rfl, ⟨by exact RSX_f fe101 fl100 (by omega) (by omega), by first | trivial | omega, by first | trivial | omega, by first | trivial | omega, by first | trivial | omega⟩⟩)⟩
          · skip
            obtain ⟨h95_0, h95_1, h95_2, h95_3, h95_4, h95_5, h95_6, h95_7, h95_8, h95_9⟩ := h95
            obtain ⟨j102, ej103, hc104⟩ := RSX_1 h95_0 (by decide)
            have hp105 : (gB_ (KF 1 b n) (VF b n) 6) i = (gO (KF 1 b n) (gC (KF 1 b n) (VF b n) 6) 600) j102 := hp88.trans ((show (fun i => gB (gEv (KF 1 b n) (VF b n) 6 i) (gO (KF 1 b n) (gC (KF 1 b n) (VF b n) 6) 600)) (gq + 1) = gB ((gEv (KF 1 b n) (VF b n) 6) (gq + 1)) (gO (KF 1 b n) (gC (KF 1 b n) (VF b n) 6) 600) by rfl).trans (by rw [ej103]; rfl))
            have hi106 : j102 ≤ t := by have z := gEv_M (K := (KF 1 b n)) (V := (VF b n)) (d := 6) (i := (gq + 1)) hz; rw [ej103] at z; have y := z rfl; simp only at y; omega
            have cr107 := CUR_R hc104 (.inr rfl)
            have cb108 := CUR_b hc104
            have cv109 := CUR_v hc104
            have ck110 := KZ_lt (i := j102) hz
            have c1111 := (hc104).1
            have ci112 := hi106
            refine go_to (k := 4) (pc' := 34) (L' := [some (.inr (.inr (some 79)))]) (st' := [.inl 0, .inl 16, .inr (.inr (some 79))]) (w' := (SH, dt96)) (fun _ => rfl) ?_
            refine go_call (Q' := _) rfl rfl rfl rfl rfl (sp_X6_lay_g L xs sio (d + 29) dt96 hI97  16 ⟨by omega, by omega⟩ 0 ⟨by omega, by omega⟩ (by first | trivial | omega)) ?_
            rintro _ _ ⟨dt114, rfl, hI115, hF116, h113⟩
            refine ⟨rfl, ?_⟩
            have hF117 : Fr [79, 84] dt dt114 := Fr_tr hF99 hF116 (by decide)
            rcases h113 with ⟨rfl, h113⟩
            obtain ⟨h113_0, h113_1, h113_2, h113_3, h113_4, h113_5, h113_6, h113_7, h113_8, h113_9, h113_10⟩ := h113
            have hc118 : CUR 1 b n dt114 j102 := CUR_sm hc104 (by omega) (by omega) (by omega) (by omega)
            refine go_to (k := 1) (pc' := 9) (L' := [some (.inr (.inr (some 79)))]) (st' := []) (w' := (SH, dt114)) (fun _ => rfl) ?_
            exact GO.le (ih_loop77  dt114 hI115 hF117 (by first | omega | exact ⟨_, hp105, hc118, hi106⟩) (by first | omega | exact ⟨_, hp105, hc118, hi106⟩) (by first | omega | exact ⟨_, hp105, hc118, hi106⟩) (by first | omega | exact ⟨_, hp105, hc118, hi106⟩) (by first | omega | exact ⟨_, hp105, hc118, hi106⟩) (by first | omega | exact ⟨_, hp105, hc118, hi106⟩) (by first | omega | exact ⟨_, hp105, hc118, hi106⟩) (by first | omega | exact ⟨_, hp105, hc118, hi106⟩) (by first | omega | exact ⟨_, hp105, hc118, hi106⟩) (by first | omega | exact ⟨_, hp105, hc118, hi106⟩) (by omega)) ⟨.inl rfl, trivial⟩
    exact GO.le (loop77 _  dt5 hI6 hF8 (by first | omega | exact ⟨_, hp14, hc13, hi15⟩) (by first | omega | exact ⟨_, hp14, hc13, hi15⟩) (by first | omega | exact ⟨_, hp14, hc13, hi15⟩) (by first | omega | exact ⟨_, hp14, hc13, hi15⟩) (by first | omega | exact ⟨_, hp14, hc13, hi15⟩) (by first | omega | exact ⟨_, hp14, hc13, hi15⟩) (by first | omega | exact ⟨_, hp14, hc13, hi15⟩) (by first | omega | exact ⟨_, hp14, hc13, hi15⟩) (by first | omega | exact ⟨_, hp14, hc13, hi15⟩) (by first | omega | exact ⟨_, hp14, hc13, hi15⟩) (Nat.lt_succ_self _)) ⟨.inl rfl, trivial⟩
