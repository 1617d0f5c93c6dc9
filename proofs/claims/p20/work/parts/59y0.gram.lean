set_option maxHeartbeats 1500000 in
set_option maxRecDepth 20000 in
theorem sp_X6_one_g8 (L : Nat) (xs : Nat → Int32) (sio : Option Nat) (d : Nat) (dt : Nat → Nat → Int) (hI : InvC dt) (b : Nat → Int) (n t i : Nat) (hbb : mB (dt 85) (dt 79 12) = b) (hnn : dt 79 12 = (n : Int)) (hz : KZ (KF 1 b n) t) (ht : t ≤ 500) (hc : CUR 1 b n dt i) (hi : i ≤ t) (hn5 : n ≤ 500)  (h_p0 : dt 79 9 = 1) (h_p1 : dt 79 11 ≤ dt 79 15) (h_p2 : dt 79 20 = 8) : GO (am_XX L xs sio) (d + 10) 170 0 [some (.inr (.inr (some 79))), none] [] (SH, dt) (fun r w2 => ∃ dt2 : Nat → Nat → Int, w2 = (SH, dt2) ∧ InvC dt2 ∧ Fr [79, 84] dt dt2 ∧ ((r = some (.inl 0) ∧ (RSX 1 b n i dt2 0 ((gC (KF 1 b n) (VF b n) 0) i)) ∧ (dt2 79 2 = dt 79 2) ∧ (dt2 79 9 = dt 79 9) ∧ (dt2 79 10 = dt 79 10) ∧ (dt2 79 12 = dt 79 12)) ∨ (r = some (.inl 1) ∧ (RSX 1 b n i dt2 1 ((gC (KF 1 b n) (VF b n) 0) i)) ∧ (dt 79 15 + dt2 79 11 ≤ dt2 79 15 + dt 79 11) ∧ (dt 79 11 + 1 ≤ dt2 79 11) ∧ (dt2 79 15 ≤ 500) ∧ (dt2 79 2 = dt 79 2) ∧ (dt2 79 9 = dt 79 9) ∧ (dt2 79 10 = dt 79 10) ∧ (dt2 79 12 = dt 79 12) ∧ (dt2 79 17 = dt 79 17) ∧ (dt2 79 20 = dt 79 20)))) := by
  have hF : Fr [79, 84] dt dt := Fr_refl
  have r1 : 0 ≤ dt 79 15 ∧ dt 79 15 ≤ 500 := InvC_get hI 79 15 rfl rfl
  have r2 : 0 ≤ dt 79 11 ∧ dt 79 11 ≤ 510 := InvC_get hI 79 11 rfl rfl
  have r3 : 0 ≤ dt 79 10 ∧ dt 79 10 ≤ 24 := InvC_get hI 79 10 rfl rfl
  have cr0 := hid (CUR_R hc (.inr rfl))
  have cd0 := CUR_d (hc)
  have cb0 := hid (CUR_b hc)
  have cv0 := hid (CUR_v hc)
  have ck0 := hid (KZ_lt (i := i) hz)
  have c10 := hc.1
  have r4 : (-2147483648) ≤ dt 79 14 ∧ dt 79 14 ≤ 2147483647 := InvC_get hI 79 14 rfl rfl
  have u1_ := hid (And.intro (unhid cr0) (And.intro (unhid cb0) (And.intro (unhid cv0) (unhid ck0))))
  refine go_ifq PM170 (k := 3) (p1 := 44) (p2 := 9) (L' := [some (.inr (.inr (some 79))), none]) (st' := []) (w' := (SH, dt)) rfl (c_ne (a := dt 79 14) (b := 6) (by first | exact bnd r4 (by decide) (by decide) | exact ⟨by (first | omega | (have z_ := unhid u1_; omega)), by (first | omega | (have z_ := unhid u1_; omega))⟩) ⟨by decide, by decide⟩) (fun c5 => ?_) (fun c5 => ?_)
  · skip
    replace c5 := hid c5
    have u2_ := hid (And.intro (unhid cr0) (And.intro (unhid cb0) (And.intro (unhid cv0) (And.intro (unhid ck0) (unhid c5)))))
    refine go_ifq PM170 (k := 3) (p1 := 92) (p2 := 54) (L' := [some (.inr (.inr (some 79))), none]) (st' := []) (w' := (SH, dt)) rfl (c_ne (a := dt 79 14) (b := 140) (by first | exact bnd r4 (by decide) (by decide) | exact ⟨by (first | omega | (have z_ := unhid u2_; omega)), by (first | omega | (have z_ := unhid u2_; omega))⟩) ⟨by decide, by decide⟩) (fun c6 => ?_) (fun c6 => ?_)
    · skip
      replace c6 := hid c6
      refine go_toq PM170 (k := 1) (pc' := 93) (L' := [some (.inr (.inr (some 79))), none]) (st' := [.inr (.inr (some 79))]) (w' := (SH, dt)) rfl ?_
      have u3_ := hid (And.intro (unhid cr0) (And.intro (unhid cb0) (And.intro (unhid cv0) (And.intro (unhid ck0) (And.intro (unhid c5) (unhid c6))))))
      refine go_callq PM170 PM165 (Q' := _) rfl rfl rfl rfl (sp_X6_sumUp_g L xs sio (d + 0) dt hI b n t i (by first | exact hbb | (rw [show dt 85 = dt 85 from funext (hF 85 (by decide)), show dt 79 12 = dt 79 12 by first | with_reducible assumption | exact unhid (by with_reducible assumption) | (first | omega | (have z_ := unhid u3_; omega))]; exact hbb)) (by first | with_reducible assumption | exact unhid (by with_reducible assumption) | exact Eq.trans (by with_reducible assumption) hnn | (first | omega | (have z_ := unhid u3_; omega))) hz ht hc hi hn5  (by first | exact True.intro | with_reducible assumption | exact unhid (by with_reducible assumption) | rfl | (first | omega | (have z_ := unhid u3_; omega)) | trivial) (by first | exact True.intro | with_reducible assumption | exact unhid (by with_reducible assumption) | rfl | (first | omega | (have z_ := unhid u3_; omega)) | trivial)) ?_
      rintro _ _ ⟨dt8, rfl, hI9, hF10, h7⟩
      refine ⟨rfl, ?_⟩
      have hF11 : Fr [79, 84] dt dt8 := Fr_tr hF hF10 (by decide)
      rcases h7 with ⟨rfl, h7⟩ | ⟨rfl, h7⟩
      · skip
        obtain ⟨h7_0, h7_1, h7_2, h7_3, h7_4⟩ := h7
        have w12 : dt8 79 2 = dt 79 2 := h7_1
        have w13 : dt8 79 9 = dt 79 9 := h7_2
        have w14 : dt8 79 10 = dt 79 10 := h7_3
        have w15 : dt8 79 12 = dt 79 12 := h7_4
        have fl16 := RSX_0 h7_0 rfl
        have fe17 : (gC (KF 1 b n) (VF b n) 0) i = (gE (KF 1 b n) (VF b n)) i := (rfl : (gC (KF 1 b n) (VF b n) 0) i = (gC (KF 1 b n) (VF b n) 0) i).trans ((show (gC (KF 1 b n) (VF b n) 0) i = gB ((gE (KF 1 b n) (VF b n)) i) (gR1 (KF 1 b n) (VF b n)) by exact (gC_1 (by (first | omega | (have z_ := unhid u3_; omega))) (by (first | omega | (have z_ := unhid u3_; omega)))).trans gC1_R).trans (gB_no fl16.1))
        clear h7_1 h7_2 h7_3 h7_4
        refine go_retq PM170 (k := 2) (r := some (.inl 0)) (w1 := (SH, dt8)) rfl ?_
        exact ⟨dt8, rfl, hI9, hF11, (Or.inl ⟨rfl, ⟨by first | exact RSX_f fe17 fl16 (by first | rfl | with_reducible assumption | exact unhid (by with_reducible assumption) | (first | omega | (have z_ := unhid u3_; omega))) (by first | rfl | with_reducible assumption | exact unhid (by with_reducible assumption) | (first | omega | (have z_ := unhid u3_; omega))) | exact RSX_no (k := 1) (j := i) ((rfl : (gC (KF 1 b n) (VF b n) 0) i = (gC (KF 1 b n) (VF b n) 0) i).trans (by show gR1 _ _ _ = _; unfold gR1; rw [if_neg (by (first | omega | (have z_ := unhid u3_; omega)))])) (by decide) (by (first | omega | (have z_ := unhid u3_; omega))) (by show _ = ((TP b n i : Nat) : Int); (first | omega | (have z_ := unhid u3_; omega))), by first | exact True.intro | with_reducible assumption | exact unhid (by with_reducible assumption) | rfl | (first | omega | (have z_ := unhid u3_; omega)) | trivial, by first | exact True.intro | with_reducible assumption | exact unhid (by with_reducible assumption) | rfl | (first | omega | (have z_ := unhid u3_; omega)) | trivial, by first | exact True.intro | with_reducible assumption | exact unhid (by with_reducible assumption) | rfl | (first | omega | (have z_ := unhid u3_; omega)) | trivial, by first | exact True.intro | with_reducible assumption | exact unhid (by with_reducible assumption) | rfl | (first | omega | (have z_ := unhid u3_; omega)) | trivial⟩⟩)⟩
      · skip
        obtain ⟨h7_0, h7_1, h7_2, h7_3, h7_4, h7_5, h7_6, h7_7, h7_8, h7_9⟩ := h7
        have w18 : dt8 79 2 = dt 79 2 := h7_4
        have w19 : dt8 79 9 = dt 79 9 := h7_5
        have w20 : dt8 79 10 = dt 79 10 := h7_6
        have w21 : dt8 79 12 = dt 79 12 := h7_7
        have w22 : dt8 79 17 = dt 79 17 := h7_8
        have w23 : dt8 79 20 = dt 79 20 := h7_9
        obtain ⟨j24, ej25, hc26⟩ := RSX_1 h7_0 (by decide)
        have hp27 : (gC (KF 1 b n) (VF b n) 0) i = (gR1 (KF 1 b n) (VF b n)) j24 := (rfl : (gC (KF 1 b n) (VF b n) 0) i = (gC (KF 1 b n) (VF b n) 0) i).trans ((show (gC (KF 1 b n) (VF b n) 0) i = gB ((gE (KF 1 b n) (VF b n)) i) (gR1 (KF 1 b n) (VF b n)) by exact (gC_1 (by (have z_ := unhid u3_; omega)) (by (have z_ := unhid u3_; omega))).trans gC1_R).trans (by rw [ej25]; exact gB_0))
        have hi28 : j24 ≤ t := by have z := gE_M (K := (KF 1 b n)) (V := (VF b n)) (i := i) hz; rw [ej25] at z; have y := z rfl; simp only at y; (first | omega | (have z_ := unhid u3_; omega))
        clear cr0 cb0 cd0 cv0 ck0
        have cr29 := hid (CUR_R hc26 (.inr rfl))
        have cd30 := CUR_d (hc26)
        have cb30 := hid (CUR_b hc26)
        have cv31 := hid (CUR_v hc26)
        have ck32 := hid (KZ_lt (i := j24) hz)
        have c133 := (hc26).1
        have ci34 := hi28
        clear h7_4 h7_5 h7_6 h7_7 h7_8 h7_9
        have r35 : (-2147483648) ≤ dt8 79 14 ∧ dt8 79 14 ≤ 2147483647 := InvC_get hI9 79 14 rfl rfl
        have u4_ := hid (And.intro (unhid c5) (And.intro (unhid c6) (And.intro (unhid cr29) (And.intro (unhid cb30) (And.intro (unhid cv31) (unhid ck32))))))
        refine go_ifq PM170 (k := 4) (p1 := 116) (p2 := 111) (L' := [some (.inr (.inr (some 79))), none]) (st' := []) (w' := (SH, dt8)) rfl (c_ne (a := dt8 79 14) (b := 160) (by first | exact bnd r35 (by decide) (by decide) | exact ⟨by (first | omega | (have z_ := unhid u4_; omega)), by (first | omega | (have z_ := unhid u4_; omega))⟩) ⟨by decide, by decide⟩) (fun c36 => ?_) (fun c36 => ?_)
        · skip
          replace c36 := hid c36
          have u5_ := hid (And.intro (unhid c5) (And.intro (unhid c6) (And.intro (unhid cr29) (And.intro (unhid cb30) (And.intro (unhid cv31) (And.intro (unhid ck32) (unhid c36)))))))
          refine go_ifq PM170 (k := 3) (p1 := 131) (p2 := 126) (L' := [some (.inr (.inr (some 79))), none]) (st' := []) (w' := (SH, dt8)) rfl (c_ne (a := dt8 79 14) (b := 161) (by first | exact bnd r35 (by decide) (by decide) | exact ⟨by (first | omega | (have z_ := unhid u5_; omega)), by (first | omega | (have z_ := unhid u5_; omega))⟩) ⟨by decide, by decide⟩) (fun c37 => ?_) (fun c37 => ?_)
          · skip
            replace c37 := hid c37
            have u6_ := hid (And.intro (unhid c5) (And.intro (unhid c6) (And.intro (unhid cr29) (And.intro (unhid cb30) (And.intro (unhid cv31) (And.intro (unhid ck32) (And.intro (unhid c36) (unhid c37))))))))
            have v7_ := hid (And.intro (unhid cr29) (And.intro (unhid cb30) (And.intro (unhid cv31) (unhid ck32))))
            refine go_ifq PM170 (k := 3) (p1 := 146) (p2 := 141) (L' := [some (.inr (.inr (some 79))), none]) (st' := []) (w' := (SH, dt8)) rfl (c_ne (a := dt8 79 14) (b := 162) (by first | exact bnd r35 (by decide) (by decide) | exact ⟨by (first | omega | (have z_ := unhid v7_; omega) | (have z_ := unhid u6_; omega)), by (first | omega | (have z_ := unhid v7_; omega) | (have z_ := unhid u6_; omega))⟩) ⟨by decide, by decide⟩) (fun c38 => ?_) (fun c38 => ?_)
            · skip
              replace c38 := hid c38
              refine go_toq PM170 (k := 7) (pc' := 155) (L' := [some (.inr (.inr (some 79))), some (.inl (-1))]) (st' := [.inl 1, .inr (.inr (some 79))]) (w' := (SH, dt8)) rfl ?_
              refine go_callq PM170 PM160 (Q' := _) rfl rfl rfl rfl (sp_X6_bad_g L xs sio (d + 9) dt8 hI9  1 ⟨by decide, by decide⟩ ) ?_
              rintro _ _ ⟨dt40, rfl, hI41, hF42, h39⟩
              refine ⟨rfl, ?_⟩
              have hF43 : Fr [79, 84] dt dt40 := Fr_tr hF11 hF42 (by decide)
              rcases h39 with ⟨rfl, h39⟩
              obtain ⟨h39_0, h39_1, h39_2, h39_3, h39_4, h39_5, h39_6, h39_7, h39_8, h39_9, h39_10, h39_11⟩ := h39
              have w44 : dt40 79 2 = dt 79 2 := h39_2.trans w18
              have w45 : dt40 79 9 = dt 79 9 := h39_3.trans w19
              have w46 : dt40 79 10 = dt 79 10 := h39_4.trans w20
              have w47 : dt40 79 11 = dt8 79 11 := h39_5
              have w48 : dt40 79 12 = dt 79 12 := h39_6.trans w21
              have w49 : dt40 79 13 = dt8 79 13 := h39_7
              have w50 : dt40 79 14 = dt8 79 14 := h39_8
              have w51 : dt40 79 15 = dt8 79 15 := h39_9
              have w52 : dt40 79 16 = dt8 79 16 := h39_10
              have w53 : dt40 79 20 = dt 79 20 := h39_11.trans w23
              have u8_ := hid (And.intro (unhid c5) (And.intro (unhid c6) (And.intro (unhid cr29) (And.intro (unhid cb30) (And.intro (unhid cv31) (And.intro (unhid ck32) (And.intro (unhid c36) (And.intro (unhid c37) (unhid c38)))))))))
              have hc54 : CUR 1 b n dt40 j24 := CUR_sm hc26 (by first | with_reducible assumption | exact unhid (by with_reducible assumption) | rfl | (first | omega | (have z_ := unhid v7_; omega) | (have z_ := unhid u8_; omega))) (by first | with_reducible assumption | exact unhid (by with_reducible assumption) | rfl | (first | omega | (have z_ := unhid v7_; omega) | (have z_ := unhid u8_; omega))) (by first | with_reducible assumption | exact unhid (by with_reducible assumption) | rfl | (first | omega | (have z_ := unhid v7_; omega) | (have z_ := unhid u8_; omega))) (by first | with_reducible assumption | exact unhid (by with_reducible assumption) | rfl | (first | omega | (have z_ := unhid v7_; omega) | (have z_ := unhid u8_; omega)))
              clear h39_2 w18 h39_3 w19 h39_4 h39_5 h39_6 w21 h39_7 h39_8 h39_9 h39_10 h39_11 w23
              refine go_retq PM170 (k := 0) (r := some (.inl 0)) (w1 := (SH, dt40)) rfl ?_
              exact ⟨dt40, rfl, hI41, hF43, (Or.inl ⟨rfl, ⟨by first | exact RSX_f hI hI (by first | rfl | with_reducible assumption | exact unhid (by with_reducible assumption) | (first | omega | (have z_ := unhid v7_; omega) | (have z_ := unhid u8_; omega))) (by first | rfl | with_reducible assumption | exact unhid (by with_reducible assumption) | (first | omega | (have z_ := unhid v7_; omega) | (have z_ := unhid u8_; omega))) | exact RSX_no (k := 1) (j := j24) (hp27.trans (by show gR1 _ _ _ = _; unfold gR1; rw [if_neg (by (first | omega | (have z_ := unhid v7_; omega) | (have z_ := unhid u8_; omega)))])) (by decide) (by (first | omega | (have z_ := unhid v7_; omega) | (have z_ := unhid u8_; omega))) (by show _ = ((TP b n j24 : Nat) : Int); (first | omega | (have z_ := unhid v7_; omega) | (have z_ := unhid u8_; omega))), by first | exact True.intro | with_reducible assumption | exact unhid (by with_reducible assumption) | rfl | (first | omega | (have z_ := unhid v7_; omega) | (have z_ := unhid u8_; omega)) | trivial, by first | exact True.intro | with_reducible assumption | exact unhid (by with_reducible assumption) | rfl | (first | omega | (have z_ := unhid v7_; omega) | (have z_ := unhid u8_; omega)) | trivial, by first | exact True.intro | with_reducible assumption | exact unhid (by with_reducible assumption) | rfl | (first | omega | (have z_ := unhid v7_; omega) | (have z_ := unhid u8_; omega)) | trivial, by first | exact True.intro | with_reducible assumption | exact unhid (by with_reducible assumption) | rfl | (first | omega | (have z_ := unhid v7_; omega) | (have z_ := unhid u8_; omega)) | trivial⟩⟩)⟩
            · skip
              refine go_toq PM170 (k := 7) (pc' := 160) (L' := [some (.inr (.inr (some 79))), some (.inl 13)]) (st' := [.inr (.inr (some 79))]) (w' := (SH, dt8)) rfl ?_
              refine go_callq PM170 PM159 (Q' := _) rfl rfl rfl rfl (sp_X6_next0_p1 L xs sio (d + 3) dt8 hI9   (by first | exact True.intro | with_reducible assumption | exact unhid (by with_reducible assumption) | rfl | (first | omega | (have z_ := unhid v7_; omega) | (have z_ := unhid u6_; omega)) | trivial) (by first | exact True.intro | with_reducible assumption | exact unhid (by with_reducible assumption) | rfl | (first | omega | (have z_ := unhid v7_; omega) | (have z_ := unhid u6_; omega)) | trivial)) ?_
              rintro _ _ ⟨dt56, rfl, hI57, hF58, h55⟩
              refine ⟨rfl, ?_⟩
              have hF59 : Fr [79, 84] dt dt56 := Fr_tr hF11 hF58 (by decide)
              rcases h55 with ⟨rfl, h55⟩
              obtain ⟨h55_0, h55_1, h55_2, h55_3, h55_4, h55_5, h55_6, h55_7, h55_8⟩ := h55
              have w60 : dt56 79 2 = dt 79 2 := h55_2.trans w18
              have w61 : dt56 79 9 = dt 79 9 := h55_3.trans w19
              have w62 : dt56 79 10 = dt 79 10 := h55_4.trans w20
              have w63 : dt56 79 11 = dt8 79 11 := h55_5
              have w64 : dt56 79 12 = dt 79 12 := h55_6.trans w21
              have w65 : dt56 79 17 = dt 79 17 := h55_7.trans w22
              have w66 : dt56 79 20 = dt 79 20 := h55_8.trans w23
              have hq67 := h55_0
              rw [show dt8 85 = dt 85 from funext (hF11 85 (by decide)), show dt8 79 12 = dt 79 12 by first | with_reducible assumption | exact unhid (by with_reducible assumption) | (first | omega | (have z_ := unhid v7_; omega) | (have z_ := unhid u6_; omega)), hbb, show (dt 79 12).toNat = n from (congrArg Int.toNat hnn).trans (Int.toNat_natCast n)] at hq67
              have hc68 : CUR 1 b n dt56 (j24 + 1) := CUR_n hc26 hq67
              have hi69 : j24 + 1 ≤ t := by (have z_ := unhid u6_; omega)
              have av70 : dt8 79 15 + 1 ≤ dt8 79 13 := by (have z_ := unhid u6_; omega)
              have hp71 : (gC (KF 1 b n) (VF b n) 0) i = (gE (KF 1 b n) (VF b n)) (j24 + 1) := hp27.trans (by show gR1 _ _ j24 = _; unfold gR1; rw [if_pos (by (have z_ := unhid u6_; omega))])
              clear cr29 cb30 cd30 cv31 ck32
              have cr72 := hid (CUR_R hc68 (.inr rfl))
              have cd73 := CUR_d (hc68)
              have cb73 := hid (CUR_b hc68)
              have cv74 := hid (CUR_v hc68)
              have ck75 := hid (KZ_lt (i := (j24 + 1)) hz)
              have c176 := (hc68).1
              have ci77 := hi69
              clear h55_2 w18 h55_3 w19 h55_4 h55_5 h55_6 w21 h55_7 w22 h55_8 w23
              refine go_toq PM170 (k := 1) (pc' := 164) (L' := [some (.inr (.inr (some 79))), some (.inl 13)]) (st' := [.inr (.inr (some 79))]) (w' := (SH, dt56)) rfl ?_
              have u9_ := hid (And.intro (unhid c5) (And.intro (unhid c6) (And.intro (unhid c36) (And.intro (unhid c37) (And.intro (unhid cr72) (And.intro (unhid cb73) (And.intro (unhid cv74) (unhid ck75))))))))
              have v10_ := hid (And.intro (unhid cr72) (And.intro (unhid cb73) (And.intro (unhid cv74) (unhid ck75))))
              refine go_callq PM170 PM165 (Q' := _) rfl rfl rfl rfl (sp_X6_sumUp_g L xs sio (d + 0) dt56 hI57 b n t (j24 + 1) (by first | exact hbb | (rw [show dt56 85 = dt 85 from funext (hF59 85 (by decide)), show dt56 79 12 = dt 79 12 by first | with_reducible assumption | exact unhid (by with_reducible assumption) | (first | omega | (have z_ := unhid v10_; omega) | (have z_ := unhid u9_; omega))]; exact hbb)) (by first | with_reducible assumption | exact unhid (by with_reducible assumption) | exact Eq.trans (by with_reducible assumption) hnn | (first | omega | (have z_ := unhid v10_; omega) | (have z_ := unhid u9_; omega))) hz ht hc68 hi69 hn5  (by first | exact True.intro | with_reducible assumption | exact unhid (by with_reducible assumption) | rfl | (first | omega | (have z_ := unhid v10_; omega) | (have z_ := unhid u9_; omega)) | trivial) (by first | exact True.intro | with_reducible assumption | exact unhid (by with_reducible assumption) | rfl | (first | omega | (have z_ := unhid v10_; omega) | (have z_ := unhid u9_; omega)) | trivial)) ?_
              rintro _ _ ⟨dt79, rfl, hI80, hF81, h78⟩
              refine ⟨rfl, ?_⟩
              have hF82 : Fr [79, 84] dt dt79 := Fr_tr hF59 hF81 (by decide)
              rcases h78 with ⟨rfl, h78⟩ | ⟨rfl, h78⟩
              · skip
                obtain ⟨h78_0, h78_1, h78_2, h78_3, h78_4⟩ := h78
                have w83 : dt79 79 2 = dt 79 2 := h78_1.trans w60
                have w84 : dt79 79 9 = dt 79 9 := h78_2.trans w61
                have w85 : dt79 79 10 = dt 79 10 := h78_3.trans w62
                have w86 : dt79 79 12 = dt 79 12 := h78_4.trans w64
                have fl87 := RSX_0 h78_0 rfl
                have fe88 : (gC (KF 1 b n) (VF b n) 0) i = (gE (KF 1 b n) (VF b n)) (j24 + 1) := hp71.trans ((show (gE (KF 1 b n) (VF b n)) (j24 + 1) = gB ((gE (KF 1 b n) (VF b n)) (j24 + 1)) gOk by exact gB_id.symm).trans (gB_no fl87.1))
                clear h78_1 w60 h78_2 w61 h78_3 h78_4 w64
                refine go_retq PM170 (k := 2) (r := some (.inl 0)) (w1 := (SH, dt79)) rfl ?_
                exact ⟨dt79, rfl, hI80, hF82, (Or.inl ⟨rfl, ⟨by first | exact RSX_f fe88 fl87 (by first | rfl | with_reducible assumption | exact unhid (by with_reducible assumption) | (first | omega | (have z_ := unhid v10_; omega) | (have z_ := unhid u9_; omega))) (by first | rfl | with_reducible assumption | exact unhid (by with_reducible assumption) | (first | omega | (have z_ := unhid v10_; omega) | (have z_ := unhid u9_; omega))) | exact RSX_no (k := 1) (j := (j24 + 1)) (hp71.trans (by show gR1 _ _ _ = _; unfold gR1; rw [if_neg (by (first | omega | (have z_ := unhid v10_; omega) | (have z_ := unhid u9_; omega)))])) (by decide) (by (first | omega | (have z_ := unhid v10_; omega) | (have z_ := unhid u9_; omega))) (by show _ = ((TP b n (j24 + 1) : Nat) : Int); (first | omega | (have z_ := unhid v10_; omega) | (have z_ := unhid u9_; omega))), by first | exact True.intro | with_reducible assumption | exact unhid (by with_reducible assumption) | rfl | (first | omega | (have z_ := unhid v10_; omega) | (have z_ := unhid u9_; omega)) | trivial, by first | exact True.intro | with_reducible assumption | exact unhid (by with_reducible assumption) | rfl | (first | omega | (have z_ := unhid v10_; omega) | (have z_ := unhid u9_; omega)) | trivial, by first | exact True.intro | with_reducible assumption | exact unhid (by with_reducible assumption) | rfl | (first | omega | (have z_ := unhid v10_; omega) | (have z_ := unhid u9_; omega)) | trivial, by first | exact True.intro | with_reducible assumption | exact unhid (by with_reducible assumption) | rfl | (first | omega | (have z_ := unhid v10_; omega) | (have z_ := unhid u9_; omega)) | trivial⟩⟩)⟩
              · skip
                obtain ⟨h78_0, h78_1, h78_2, h78_3, h78_4, h78_5, h78_6, h78_7, h78_8, h78_9⟩ := h78
                have w89 : dt79 79 2 = dt 79 2 := h78_4.trans w60
                have w90 : dt79 79 9 = dt 79 9 := h78_5.trans w61
                have w91 : dt79 79 10 = dt 79 10 := h78_6.trans w62
                have w92 : dt79 79 12 = dt 79 12 := h78_7.trans w64
                have w93 : dt79 79 17 = dt 79 17 := h78_8.trans w65
                have w94 : dt79 79 20 = dt 79 20 := h78_9.trans w66
                obtain ⟨j95, ej96, hc97⟩ := RSX_1 h78_0 (by decide)
                have hp98 : (gC (KF 1 b n) (VF b n) 0) i = gOk j95 := hp71.trans ((show (gE (KF 1 b n) (VF b n)) (j24 + 1) = gB ((gE (KF 1 b n) (VF b n)) (j24 + 1)) gOk by exact gB_id.symm).trans (by rw [ej96]; exact gB_0))
                have hi99 : j95 ≤ t := by have z := gE_M (K := (KF 1 b n)) (V := (VF b n)) (i := (j24 + 1)) hz; rw [ej96] at z; have y := z rfl; simp only at y; (first | omega | (have z_ := unhid v10_; omega) | (have z_ := unhid u9_; omega))
                clear cr72 cb73 cd73 cv74 ck75
                have cr100 := hid (CUR_R hc97 (.inr rfl))
                have cd101 := CUR_d (hc97)
                have cb101 := hid (CUR_b hc97)
                have cv102 := hid (CUR_v hc97)
                have ck103 := hid (KZ_lt (i := j95) hz)
                have c1104 := (hc97).1
                have ci105 := hi99
                clear h78_4 w60 h78_5 w61 h78_6 h78_7 w64 h78_8 w65 h78_9 w66
                refine go_toq PM170 (k := 4) (pc' := 175) (L' := [some (.inr (.inr (some 79))), some (.inl 13)]) (st' := [.inl 0, .inl 13, .inr (.inr (some 79))]) (w' := (SH, dt79)) rfl ?_
                have u11_ := hid (And.intro (unhid c5) (And.intro (unhid c6) (And.intro (unhid c36) (And.intro (unhid c37) (And.intro (unhid cr100) (And.intro (unhid cb101) (And.intro (unhid cv102) (unhid ck103))))))))
                have v12_ := hid (And.intro (unhid cr100) (And.intro (unhid cb101) (And.intro (unhid cv102) (unhid ck103))))
                refine go_callq PM170 PM163 (Q' := _) rfl rfl rfl rfl (sp_X6_lay_g L xs sio (d + 9) dt79 hI80  13 ⟨by decide, by decide⟩ 0 ⟨by decide, by decide⟩ (by first | exact True.intro | with_reducible assumption | exact unhid (by with_reducible assumption) | rfl | (first | omega | (have z_ := unhid v12_; omega) | (have z_ := unhid u11_; omega)) | trivial)) ?_
                rintro _ _ ⟨dt107, rfl, hI108, hF109, h106⟩
                refine ⟨rfl, ?_⟩
                have hF110 : Fr [79, 84] dt dt107 := Fr_tr hF82 hF109 (by decide)
                rcases h106 with ⟨rfl, h106⟩
                obtain ⟨h106_0, h106_1, h106_2, h106_3, h106_4, h106_5, h106_6, h106_7, h106_8, h106_9, h106_10⟩ := h106
                have w111 : dt107 79 2 = dt 79 2 := h106_1.trans w89
                have w112 : dt107 79 9 = dt 79 9 := h106_2.trans w90
                have w113 : dt107 79 10 = dt 79 10 := h106_3.trans w91
                have w114 : dt107 79 12 = dt 79 12 := h106_4.trans w92
                have w115 : dt107 79 13 = dt79 79 13 := h106_5
                have w116 : dt107 79 14 = dt79 79 14 := h106_6
                have w117 : dt107 79 15 = dt79 79 15 := h106_7
                have w118 : dt107 79 16 = dt79 79 16 := h106_8
                have w119 : dt107 79 17 = dt 79 17 := h106_9.trans w93
                have w120 : dt107 79 20 = dt 79 20 := h106_10.trans w94
                have hc121 : CUR 1 b n dt107 j95 := CUR_sm hc97 (by first | with_reducible assumption | exact unhid (by with_reducible assumption) | rfl | (first | omega | (have z_ := unhid v12_; omega) | (have z_ := unhid u11_; omega))) (by first | with_reducible assumption | exact unhid (by with_reducible assumption) | rfl | (first | omega | (have z_ := unhid v12_; omega) | (have z_ := unhid u11_; omega))) (by first | with_reducible assumption | exact unhid (by with_reducible assumption) | rfl | (first | omega | (have z_ := unhid v12_; omega) | (have z_ := unhid u11_; omega))) (by first | with_reducible assumption | exact unhid (by with_reducible assumption) | rfl | (first | omega | (have z_ := unhid v12_; omega) | (have z_ := unhid u11_; omega)))
                clear h106_1 w89 h106_2 w90 h106_3 h106_4 w92 h106_5 h106_6 h106_7 h106_8 h106_9 w93 h106_10 w94
                refine go_retq PM170 (k := 1) (r := some (.inl 1)) (w1 := (SH, dt107)) rfl ?_
                exact ⟨dt107, rfl, hI108, hF110, (Or.inr ⟨rfl, ⟨by exact RSX_ok (hp98.trans (by rfl)) hc121, by first | exact True.intro | with_reducible assumption | exact unhid (by with_reducible assumption) | rfl | (first | omega | (have z_ := unhid v12_; omega) | (have z_ := unhid u11_; omega)) | trivial, by first | exact True.intro | with_reducible assumption | exact unhid (by with_reducible assumption) | rfl | (first | omega | (have z_ := unhid v12_; omega) | (have z_ := unhid u11_; omega)) | trivial, by exact (InvC_get (by assumption) 79 15 rfl rfl).2, by first | exact True.intro | with_reducible assumption | exact unhid (by with_reducible assumption) | rfl | (first | omega | (have z_ := unhid v12_; omega) | (have z_ := unhid u11_; omega)) | trivial, by first | exact True.intro | with_reducible assumption | exact unhid (by with_reducible assumption) | rfl | (first | omega | (have z_ := unhid v12_; omega) | (have z_ := unhid u11_; omega)) | trivial, by first | exact True.intro | with_reducible assumption | exact unhid (by with_reducible assumption) | rfl | (first | omega | (have z_ := unhid v12_; omega) | (have z_ := unhid u11_; omega)) | trivial, by first | exact True.intro | with_reducible assumption | exact unhid (by with_reducible assumption) | rfl | (first | omega | (have z_ := unhid v12_; omega) | (have z_ := unhid u11_; omega)) | trivial, by first | exact True.intro | with_reducible assumption | exact unhid (by with_reducible assumption) | rfl | (first | omega | (have z_ := unhid v12_; omega) | (have z_ := unhid u11_; omega)) | trivial, by first | exact True.intro | with_reducible assumption | exact unhid (by with_reducible assumption) | rfl | (first | omega | (have z_ := unhid v12_; omega) | (have z_ := unhid u11_; omega)) | trivial⟩⟩)⟩
          · skip
            refine go_toq PM170 (k := 7) (pc' := 160) (L' := [some (.inr (.inr (some 79))), some (.inl 12)]) (st' := [.inr (.inr (some 79))]) (w' := (SH, dt8)) rfl ?_
            refine go_callq PM170 PM159 (Q' := _) rfl rfl rfl rfl (sp_X6_next0_p1 L xs sio (d + 3) dt8 hI9   (by first | exact True.intro | with_reducible assumption | exact unhid (by with_reducible assumption) | rfl | (first | omega | (have z_ := unhid u5_; omega)) | trivial) (by first | exact True.intro | with_reducible assumption | exact unhid (by with_reducible assumption) | rfl | (first | omega | (have z_ := unhid u5_; omega)) | trivial)) ?_
            rintro _ _ ⟨dt123, rfl, hI124, hF125, h122⟩
            refine ⟨rfl, ?_⟩
            have hF126 : Fr [79, 84] dt dt123 := Fr_tr hF11 hF125 (by decide)
            rcases h122 with ⟨rfl, h122⟩
            obtain ⟨h122_0, h122_1, h122_2, h122_3, h122_4, h122_5, h122_6, h122_7, h122_8⟩ := h122
            have w127 : dt123 79 2 = dt 79 2 := h122_2.trans w18
            have w128 : dt123 79 9 = dt 79 9 := h122_3.trans w19
            have w129 : dt123 79 10 = dt 79 10 := h122_4.trans w20
            have w130 : dt123 79 11 = dt8 79 11 := h122_5
            have w131 : dt123 79 12 = dt 79 12 := h122_6.trans w21
            have w132 : dt123 79 17 = dt 79 17 := h122_7.trans w22
            have w133 : dt123 79 20 = dt 79 20 := h122_8.trans w23
            have hq134 := h122_0
            rw [show dt8 85 = dt 85 from funext (hF11 85 (by decide)), show dt8 79 12 = dt 79 12 by first | with_reducible assumption | exact unhid (by with_reducible assumption) | (first | omega | (have z_ := unhid u5_; omega)), hbb, show (dt 79 12).toNat = n from (congrArg Int.toNat hnn).trans (Int.toNat_natCast n)] at hq134
            have hc135 : CUR 1 b n dt123 (j24 + 1) := CUR_n hc26 hq134
            have hi136 : j24 + 1 ≤ t := by (have z_ := unhid u5_; omega)
            have av137 : dt8 79 15 + 1 ≤ dt8 79 13 := by (have z_ := unhid u5_; omega)
            have hp138 : (gC (KF 1 b n) (VF b n) 0) i = (gE (KF 1 b n) (VF b n)) (j24 + 1) := hp27.trans (by show gR1 _ _ j24 = _; unfold gR1; rw [if_pos (by (have z_ := unhid u5_; omega))])
            clear cr29 cb30 cd30 cv31 ck32
            have cr139 := hid (CUR_R hc135 (.inr rfl))
            have cd140 := CUR_d (hc135)
            have cb140 := hid (CUR_b hc135)
            have cv141 := hid (CUR_v hc135)
            have ck142 := hid (KZ_lt (i := (j24 + 1)) hz)
            have c1143 := (hc135).1
            have ci144 := hi136
            clear h122_2 w18 h122_3 w19 h122_4 h122_5 h122_6 w21 h122_7 w22 h122_8 w23
            refine go_toq PM170 (k := 1) (pc' := 164) (L' := [some (.inr (.inr (some 79))), some (.inl 12)]) (st' := [.inr (.inr (some 79))]) (w' := (SH, dt123)) rfl ?_
            have u13_ := hid (And.intro (unhid c5) (And.intro (unhid c6) (And.intro (unhid c36) (And.intro (unhid cr139) (And.intro (unhid cb140) (And.intro (unhid cv141) (unhid ck142)))))))
            refine go_callq PM170 PM165 (Q' := _) rfl rfl rfl rfl (sp_X6_sumUp_g L xs sio (d + 0) dt123 hI124 b n t (j24 + 1) (by first | exact hbb | (rw [show dt123 85 = dt 85 from funext (hF126 85 (by decide)), show dt123 79 12 = dt 79 12 by first | with_reducible assumption | exact unhid (by with_reducible assumption) | (first | omega | (have z_ := unhid u13_; omega))]; exact hbb)) (by first | with_reducible assumption | exact unhid (by with_reducible assumption) | exact Eq.trans (by with_reducible assumption) hnn | (first | omega | (have z_ := unhid u13_; omega))) hz ht hc135 hi136 hn5  (by first | exact True.intro | with_reducible assumption | exact unhid (by with_reducible assumption) | rfl | (first | omega | (have z_ := unhid u13_; omega)) | trivial) (by first | exact True.intro | with_reducible assumption | exact unhid (by with_reducible assumption) | rfl | (first | omega | (have z_ := unhid u13_; omega)) | trivial)) ?_
            rintro _ _ ⟨dt146, rfl, hI147, hF148, h145⟩
            refine ⟨rfl, ?_⟩
            have hF149 : Fr [79, 84] dt dt146 := Fr_tr hF126 hF148 (by decide)
            rcases h145 with ⟨rfl, h145⟩ | ⟨rfl, h145⟩
            · skip
              obtain ⟨h145_0, h145_1, h145_2, h145_3, h145_4⟩ := h145
              have w150 : dt146 79 2 = dt 79 2 := h145_1.trans w127
              have w151 : dt146 79 9 = dt 79 9 := h145_2.trans w128
              have w152 : dt146 79 10 = dt 79 10 := h145_3.trans w129
              have w153 : dt146 79 12 = dt 79 12 := h145_4.trans w131
              have fl154 := RSX_0 h145_0 rfl
              have fe155 : (gC (KF 1 b n) (VF b n) 0) i = (gE (KF 1 b n) (VF b n)) (j24 + 1) := hp138.trans ((show (gE (KF 1 b n) (VF b n)) (j24 + 1) = gB ((gE (KF 1 b n) (VF b n)) (j24 + 1)) gOk by exact gB_id.symm).trans (gB_no fl154.1))
              clear h145_1 w127 h145_2 w128 h145_3 h145_4 w131
              refine go_retq PM170 (k := 2) (r := some (.inl 0)) (w1 := (SH, dt146)) rfl ?_
              exact ⟨dt146, rfl, hI147, hF149, (Or.inl ⟨rfl, ⟨by first | exact RSX_f fe155 fl154 (by first | rfl | with_reducible assumption | exact unhid (by with_reducible assumption) | (first | omega | (have z_ := unhid u13_; omega))) (by first | rfl | with_reducible assumption | exact unhid (by with_reducible assumption) | (first | omega | (have z_ := unhid u13_; omega))) | exact RSX_no (k := 1) (j := (j24 + 1)) (hp138.trans (by show gR1 _ _ _ = _; unfold gR1; rw [if_neg (by (first | omega | (have z_ := unhid u13_; omega)))])) (by decide) (by (first | omega | (have z_ := unhid u13_; omega))) (by show _ = ((TP b n (j24 + 1) : Nat) : Int); (first | omega | (have z_ := unhid u13_; omega))), by first | exact True.intro | with_reducible assumption | exact unhid (by with_reducible assumption) | rfl | (first | omega | (have z_ := unhid u13_; omega)) | trivial, by first | exact True.intro | with_reducible assumption | exact unhid (by with_reducible assumption) | rfl | (first | omega | (have z_ := unhid u13_; omega)) | trivial, by first | exact True.intro | with_reducible assumption | exact unhid (by with_reducible assumption) | rfl | (first | omega | (have z_ := unhid u13_; omega)) | trivial, by first | exact True.intro | with_reducible assumption | exact unhid (by with_reducible assumption) | rfl | (first | omega | (have z_ := unhid u13_; omega)) | trivial⟩⟩)⟩
            · skip
              obtain ⟨h145_0, h145_1, h145_2, h145_3, h145_4, h145_5, h145_6, h145_7, h145_8, h145_9⟩ := h145
              have w156 : dt146 79 2 = dt 79 2 := h145_4.trans w127
              have w157 : dt146 79 9 = dt 79 9 := h145_5.trans w128
              have w158 : dt146 79 10 = dt 79 10 := h145_6.trans w129
              have w159 : dt146 79 12 = dt 79 12 := h145_7.trans w131
              have w160 : dt146 79 17 = dt 79 17 := h145_8.trans w132
              have w161 : dt146 79 20 = dt 79 20 := h145_9.trans w133
              obtain ⟨j162, ej163, hc164⟩ := RSX_1 h145_0 (by decide)
              have hp165 : (gC (KF 1 b n) (VF b n) 0) i = gOk j162 := hp138.trans ((show (gE (KF 1 b n) (VF b n)) (j24 + 1) = gB ((gE (KF 1 b n) (VF b n)) (j24 + 1)) gOk by exact gB_id.symm).trans (by rw [ej163]; exact gB_0))
              have hi166 : j162 ≤ t := by have z := gE_M (K := (KF 1 b n)) (V := (VF b n)) (i := (j24 + 1)) hz; rw [ej163] at z; have y := z rfl; simp only at y; (first | omega | (have z_ := unhid u13_; omega))
              clear cr139 cb140 cd140 cv141 ck142
              have cr167 := hid (CUR_R hc164 (.inr rfl))
              have cd168 := CUR_d (hc164)
              have cb168 := hid (CUR_b hc164)
              have cv169 := hid (CUR_v hc164)
              have ck170 := hid (KZ_lt (i := j162) hz)
              have c1171 := (hc164).1
              have ci172 := hi166
              clear h145_4 w127 h145_5 w128 h145_6 h145_7 w131 h145_8 w132 h145_9 w133
              refine go_toq PM170 (k := 4) (pc' := 175) (L' := [some (.inr (.inr (some 79))), some (.inl 12)]) (st' := [.inl 0, .inl 12, .inr (.inr (some 79))]) (w' := (SH, dt146)) rfl ?_
              have u14_ := hid (And.intro (unhid c5) (And.intro (unhid c6) (And.intro (unhid c36) (And.intro (unhid cr167) (And.intro (unhid cb168) (And.intro (unhid cv169) (unhid ck170)))))))
              refine go_callq PM170 PM163 (Q' := _) rfl rfl rfl rfl (sp_X6_lay_g L xs sio (d + 9) dt146 hI147  12 ⟨by decide, by decide⟩ 0 ⟨by decide, by decide⟩ (by first | exact True.intro | with_reducible assumption | exact unhid (by with_reducible assumption) | rfl | (first | omega | (have z_ := unhid u14_; omega)) | trivial)) ?_
              rintro _ _ ⟨dt174, rfl, hI175, hF176, h173⟩
              refine ⟨rfl, ?_⟩
              have hF177 : Fr [79, 84] dt dt174 := Fr_tr hF149 hF176 (by decide)
              rcases h173 with ⟨rfl, h173⟩
              obtain ⟨h173_0, h173_1, h173_2, h173_3, h173_4, h173_5, h173_6, h173_7, h173_8, h173_9, h173_10⟩ := h173
              have w178 : dt174 79 2 = dt 79 2 := h173_1.trans w156
              have w179 : dt174 79 9 = dt 79 9 := h173_2.trans w157
              have w180 : dt174 79 10 = dt 79 10 := h173_3.trans w158
              have w181 : dt174 79 12 = dt 79 12 := h173_4.trans w159
              have w182 : dt174 79 13 = dt146 79 13 := h173_5
              have w183 : dt174 79 14 = dt146 79 14 := h173_6
              have w184 : dt174 79 15 = dt146 79 15 := h173_7
              have w185 : dt174 79 16 = dt146 79 16 := h173_8
              have w186 : dt174 79 17 = dt 79 17 := h173_9.trans w160
              have w187 : dt174 79 20 = dt 79 20 := h173_10.trans w161
              have hc188 : CUR 1 b n dt174 j162 := CUR_sm hc164 (by first | with_reducible assumption | exact unhid (by with_reducible assumption) | rfl | (first | omega | (have z_ := unhid u14_; omega))) (by first | with_reducible assumption | exact unhid (by with_reducible assumption) | rfl | (first | omega | (have z_ := unhid u14_; omega))) (by first | with_reducible assumption | exact unhid (by with_reducible assumption) | rfl | (first | omega | (have z_ := unhid u14_; omega))) (by first | with_reducible assumption | exact unhid (by with_reducible assumption) | rfl | (first | omega | (have z_ := unhid u14_; omega)))
              clear h173_1 w156 h173_2 w157 h173_3 h173_4 w159 h173_5 h173_6 h173_7 h173_8 h173_9 w160 h173_10 w161
              refine go_retq PM170 (k := 1) (r := some (.inl 1)) (w1 := (SH, dt174)) rfl ?_
              exact ⟨dt174, rfl, hI175, hF177, (Or.inr ⟨rfl, ⟨by exact RSX_ok (hp165.trans (by rfl)) hc188, by first | exact True.intro | with_reducible assumption | exact unhid (by with_reducible assumption) | rfl | (first | omega | (have z_ := unhid u14_; omega)) | trivial, by first | exact True.intro | with_reducible assumption | exact unhid (by with_reducible assumption) | rfl | (first | omega | (have z_ := unhid u14_; omega)) | trivial, by exact (InvC_get (by assumption) 79 15 rfl rfl).2, by first | exact True.intro | with_reducible assumption | exact unhid (by with_reducible assumption) | rfl | (first | omega | (have z_ := unhid u14_; omega)) | trivial, by first | exact True.intro | with_reducible assumption | exact unhid (by with_reducible assumption) | rfl | (first | omega | (have z_ := unhid u14_; omega)) | trivial, by first | exact True.intro | with_reducible assumption | exact unhid (by with_reducible assumption) | rfl | (first | omega | (have z_ := unhid u14_; omega)) | trivial, by first | exact True.intro | with_reducible assumption | exact unhid (by with_reducible assumption) | rfl | (first | omega | (have z_ := unhid u14_; omega)) | trivial, by first | exact True.intro | with_reducible assumption | exact unhid (by with_reducible assumption) | rfl | (first | omega | (have z_ := unhid u14_; omega)) | trivial, by first | exact True.intro | with_reducible assumption | exact unhid (by with_reducible assumption) | rfl | (first | omega | (have z_ := unhid u14_; omega)) | trivial⟩⟩)⟩
        · skip
          refine go_toq PM170 (k := 7) (pc' := 160) (L' := [some (.inr (.inr (some 79))), some (.inl 11)]) (st' := [.inr (.inr (some 79))]) (w' := (SH, dt8)) rfl ?_
          refine go_callq PM170 PM159 (Q' := _) rfl rfl rfl rfl (sp_X6_next0_p1 L xs sio (d + 3) dt8 hI9   (by first | exact True.intro | with_reducible assumption | exact unhid (by with_reducible assumption) | rfl | (first | omega | (have z_ := unhid u4_; omega)) | trivial) (by first | exact True.intro | with_reducible assumption | exact unhid (by with_reducible assumption) | rfl | (first | omega | (have z_ := unhid u4_; omega)) | trivial)) ?_
          rintro _ _ ⟨dt190, rfl, hI191, hF192, h189⟩
          refine ⟨rfl, ?_⟩
          have hF193 : Fr [79, 84] dt dt190 := Fr_tr hF11 hF192 (by decide)
          rcases h189 with ⟨rfl, h189⟩
          obtain ⟨h189_0, h189_1, h189_2, h189_3, h189_4, h189_5, h189_6, h189_7, h189_8⟩ := h189
          have w194 : dt190 79 2 = dt 79 2 := h189_2.trans w18
          have w195 : dt190 79 9 = dt 79 9 := h189_3.trans w19
          have w196 : dt190 79 10 = dt 79 10 := h189_4.trans w20
          have w197 : dt190 79 11 = dt8 79 11 := h189_5
          have w198 : dt190 79 12 = dt 79 12 := h189_6.trans w21
          have w199 : dt190 79 17 = dt 79 17 := h189_7.trans w22
          have w200 : dt190 79 20 = dt 79 20 := h189_8.trans w23
          have hq201 := h189_0
          rw [show dt8 85 = dt 85 from funext (hF11 85 (by decide)), show dt8 79 12 = dt 79 12 by first | with_reducible assumption | exact unhid (by with_reducible assumption) | (first | omega | (have z_ := unhid u4_; omega)), hbb, show (dt 79 12).toNat = n from (congrArg Int.toNat hnn).trans (Int.toNat_natCast n)] at hq201
          have hc202 : CUR 1 b n dt190 (j24 + 1) := CUR_n hc26 hq201
          have hi203 : j24 + 1 ≤ t := by (have z_ := unhid u4_; omega)
          have av204 : dt8 79 15 + 1 ≤ dt8 79 13 := by (have z_ := unhid u4_; omega)
          have hp205 : (gC (KF 1 b n) (VF b n) 0) i = (gE (KF 1 b n) (VF b n)) (j24 + 1) := hp27.trans (by show gR1 _ _ j24 = _; unfold gR1; rw [if_pos (by (have z_ := unhid u4_; omega))])
          clear cr29 cb30 cd30 cv31 ck32
          have cr206 := hid (CUR_R hc202 (.inr rfl))
          have cd207 := CUR_d (hc202)
          have cb207 := hid (CUR_b hc202)
          have cv208 := hid (CUR_v hc202)
          have ck209 := hid (KZ_lt (i := (j24 + 1)) hz)
          have c1210 := (hc202).1
          have ci211 := hi203
          clear h189_2 w18 h189_3 w19 h189_4 h189_5 h189_6 w21 h189_7 w22 h189_8 w23
          refine go_toq PM170 (k := 1) (pc' := 164) (L' := [some (.inr (.inr (some 79))), some (.inl 11)]) (st' := [.inr (.inr (some 79))]) (w' := (SH, dt190)) rfl ?_
          have u15_ := hid (And.intro (unhid c5) (And.intro (unhid c6) (And.intro (unhid cr206) (And.intro (unhid cb207) (And.intro (unhid cv208) (unhid ck209))))))
          refine go_callq PM170 PM165 (Q' := _) rfl rfl rfl rfl (sp_X6_sumUp_g L xs sio (d + 0) dt190 hI191 b n t (j24 + 1) (by first | exact hbb | (rw [show dt190 85 = dt 85 from funext (hF193 85 (by decide)), show dt190 79 12 = dt 79 12 by first | with_reducible assumption | exact unhid (by with_reducible assumption) | (first | omega | (have z_ := unhid u15_; omega))]; exact hbb)) (by first | with_reducible assumption | exact unhid (by with_reducible assumption) | exact Eq.trans (by with_reducible assumption) hnn | (first | omega | (have z_ := unhid u15_; omega))) hz ht hc202 hi203 hn5  (by first | exact True.intro | with_reducible assumption | exact unhid (by with_reducible assumption) | rfl | (first | omega | (have z_ := unhid u15_; omega)) | trivial) (by first | exact True.intro | with_reducible assumption | exact unhid (by with_reducible assumption) | rfl | (first | omega | (have z_ := unhid u15_; omega)) | trivial)) ?_
          rintro _ _ ⟨dt213, rfl, hI214, hF215, h212⟩
          refine ⟨rfl, ?_⟩
          have hF216 : Fr [79, 84] dt dt213 := Fr_tr hF193 hF215 (by decide)
          rcases h212 with ⟨rfl, h212⟩ | ⟨rfl, h212⟩
          · skip
            obtain ⟨h212_0, h212_1, h212_2, h212_3, h212_4⟩ := h212
            have w217 : dt213 79 2 = dt 79 2 := h212_1.trans w194
            have w218 : dt213 79 9 = dt 79 9 := h212_2.trans w195
            have w219 : dt213 79 10 = dt 79 10 := h212_3.trans w196
            have w220 : dt213 79 12 = dt 79 12 := h212_4.trans w198
            have fl221 := RSX_0 h212_0 rfl
            have fe222 : (gC (KF 1 b n) (VF b n) 0) i = (gE (KF 1 b n) (VF b n)) (j24 + 1) := hp205.trans ((show (gE (KF 1 b n) (VF b n)) (j24 + 1) = gB ((gE (KF 1 b n) (VF b n)) (j24 + 1)) gOk by exact gB_id.symm).trans (gB_no fl221.1))
            clear h212_1 w194 h212_2 w195 h212_3 h212_4 w198
            refine go_retq PM170 (k := 2) (r := some (.inl 0)) (w1 := (SH, dt213)) rfl ?_
            exact ⟨dt213, rfl, hI214, hF216, (Or.inl ⟨rfl, ⟨by first | exact RSX_f fe222 fl221 (by first | rfl | with_reducible assumption | exact unhid (by with_reducible assumption) | (first | omega | (have z_ := unhid u15_; omega))) (by first | rfl | with_reducible assumption | exact unhid (by with_reducible assumption) | (first | omega | (have z_ := unhid u15_; omega))) | exact RSX_no (k := 1) (j := (j24 + 1)) (hp205.trans (by show gR1 _ _ _ = _; unfold gR1; rw [if_neg (by (first | omega | (have z_ := unhid u15_; omega)))])) (by decide) (by (first | omega | (have z_ := unhid u15_; omega))) (by show _ = ((TP b n (j24 + 1) : Nat) : Int); (first | omega | (have z_ := unhid u15_; omega))), by first | exact True.intro | with_reducible assumption | exact unhid (by with_reducible assumption) | rfl | (first | omega | (have z_ := unhid u15_; omega)) | trivial, by first | exact True.intro | with_reducible assumption | exact unhid (by with_reducible assumption) | rfl | (first | omega | (have z_ := unhid u15_; omega)) | trivial, by first | exact True.intro | with_reducible assumption | exact unhid (by with_reducible assumption) | rfl | (first | omega | (have z_ := unhid u15_; omega)) | trivial, by first | exact True.intro | with_reducible assumption | exact unhid (by with_reducible assumption) | rfl | (first | omega | (have z_ := unhid u15_; omega)) | trivial⟩⟩)⟩
          · skip
            obtain ⟨h212_0, h212_1, h212_2, h212_3, h212_4, h212_5, h212_6, h212_7, h212_8, h212_9⟩ := h212
            have w223 : dt213 79 2 = dt 79 2 := h212_4.trans w194
            have w224 : dt213 79 9 = dt 79 9 := h212_5.trans w195
            have w225 : dt213 79 10 = dt 79 10 := h212_6.trans w196
            have w226 : dt213 79 12 = dt 79 12 := h212_7.trans w198
            have w227 : dt213 79 17 = dt 79 17 := h212_8.trans w199
            have w228 : dt213 79 20 = dt 79 20 := h212_9.trans w200
            obtain ⟨j229, ej230, hc231⟩ := RSX_1 h212_0 (by decide)
            have hp232 : (gC (KF 1 b n) (VF b n) 0) i = gOk j229 := hp205.trans ((show (gE (KF 1 b n) (VF b n)) (j24 + 1) = gB ((gE (KF 1 b n) (VF b n)) (j24 + 1)) gOk by exact gB_id.symm).trans (by rw [ej230]; exact gB_0))
            have hi233 : j229 ≤ t := by have z := gE_M (K := (KF 1 b n)) (V := (VF b n)) (i := (j24 + 1)) hz; rw [ej230] at z; have y := z rfl; simp only at y; (first | omega | (have z_ := unhid u15_; omega))
            clear cr206 cb207 cd207 cv208 ck209
            have cr234 := hid (CUR_R hc231 (.inr rfl))
            have cd235 := CUR_d (hc231)
            have cb235 := hid (CUR_b hc231)
            have cv236 := hid (CUR_v hc231)
            have ck237 := hid (KZ_lt (i := j229) hz)
            have c1238 := (hc231).1
            have ci239 := hi233
            clear h212_4 w194 h212_5 w195 h212_6 h212_7 w198 h212_8 w199 h212_9 w200
            refine go_toq PM170 (k := 4) (pc' := 175) (L' := [some (.inr (.inr (some 79))), some (.inl 11)]) (st' := [.inl 0, .inl 11, .inr (.inr (some 79))]) (w' := (SH, dt213)) rfl ?_
            have u16_ := hid (And.intro (unhid c5) (And.intro (unhid c6) (And.intro (unhid cr234) (And.intro (unhid cb235) (And.intro (unhid cv236) (unhid ck237))))))
            refine go_callq PM170 PM163 (Q' := _) rfl rfl rfl rfl (sp_X6_lay_g L xs sio (d + 9) dt213 hI214  11 ⟨by decide, by decide⟩ 0 ⟨by decide, by decide⟩ (by first | exact True.intro | with_reducible assumption | exact unhid (by with_reducible assumption) | rfl | (first | omega | (have z_ := unhid u16_; omega)) | trivial)) ?_
            rintro _ _ ⟨dt241, rfl, hI242, hF243, h240⟩
            refine ⟨rfl, ?_⟩
            have hF244 : Fr [79, 84] dt dt241 := Fr_tr hF216 hF243 (by decide)
            rcases h240 with ⟨rfl, h240⟩
            obtain ⟨h240_0, h240_1, h240_2, h240_3, h240_4, h240_5, h240_6, h240_7, h240_8, h240_9, h240_10⟩ := h240
            have w245 : dt241 79 2 = dt 79 2 := h240_1.trans w223
            have w246 : dt241 79 9 = dt 79 9 := h240_2.trans w224
            have w247 : dt241 79 10 = dt 79 10 := h240_3.trans w225
            have w248 : dt241 79 12 = dt 79 12 := h240_4.trans w226
            have w249 : dt241 79 13 = dt213 79 13 := h240_5
            have w250 : dt241 79 14 = dt213 79 14 := h240_6
            have w251 : dt241 79 15 = dt213 79 15 := h240_7
            have w252 : dt241 79 16 = dt213 79 16 := h240_8
            have w253 : dt241 79 17 = dt 79 17 := h240_9.trans w227
            have w254 : dt241 79 20 = dt 79 20 := h240_10.trans w228
            have hc255 : CUR 1 b n dt241 j229 := CUR_sm hc231 (by first | with_reducible assumption | exact unhid (by with_reducible assumption) | rfl | (first | omega | (have z_ := unhid u16_; omega))) (by first | with_reducible assumption | exact unhid (by with_reducible assumption) | rfl | (first | omega | (have z_ := unhid u16_; omega))) (by first | with_reducible assumption | exact unhid (by with_reducible assumption) | rfl | (first | omega | (have z_ := unhid u16_; omega))) (by first | with_reducible assumption | exact unhid (by with_reducible assumption) | rfl | (first | omega | (have z_ := unhid u16_; omega)))
            clear h240_1 w223 h240_2 w224 h240_3 h240_4 w226 h240_5 h240_6 h240_7 h240_8 h240_9 w227 h240_10 w228
            refine go_retq PM170 (k := 1) (r := some (.inl 1)) (w1 := (SH, dt241)) rfl ?_
            exact ⟨dt241, rfl, hI242, hF244, (Or.inr ⟨rfl, ⟨by exact RSX_ok (hp232.trans (by rfl)) hc255, by first | exact True.intro | with_reducible assumption | exact unhid (by with_reducible assumption) | rfl | (first | omega | (have z_ := unhid u16_; omega)) | trivial, by first | exact True.intro | with_reducible assumption | exact unhid (by with_reducible assumption) | rfl | (first | omega | (have z_ := unhid u16_; omega)) | trivial, by exact (InvC_get (by assumption) 79 15 rfl rfl).2, by first | exact True.intro | with_reducible assumption | exact unhid (by with_reducible assumption) | rfl | (first | omega | (have z_ := unhid u16_; omega)) | trivial, by first | exact True.intro | with_reducible assumption | exact unhid (by with_reducible assumption) | rfl | (first | omega | (have z_ := unhid u16_; omega)) | trivial, by first | exact True.intro | with_reducible assumption | exact unhid (by with_reducible assumption) | rfl | (first | omega | (have z_ := unhid u16_; omega)) | trivial, by first | exact True.intro | with_reducible assumption | exact unhid (by with_reducible assumption) | rfl | (first | omega | (have z_ := unhid u16_; omega)) | trivial, by first | exact True.intro | with_reducible assumption | exact unhid (by with_reducible assumption) | rfl | (first | omega | (have z_ := unhid u16_; omega)) | trivial, by first | exact True.intro | with_reducible assumption | exact unhid (by with_reducible assumption) | rfl | (first | omega | (have z_ := unhid u16_; omega)) | trivial⟩⟩)⟩
    · skip
      refine go_toq PM170 (k := 1) (pc' := 55) (L' := [some (.inr (.inr (some 79))), none]) (st' := [.inr (.inr (some 79))]) (w' := (SH, dt)) rfl ?_
      refine go_callq PM170 PM164 (Q' := _) rfl rfl rfl rfl (sp_X6_opens_x L xs sio (d + 2) dt hI b n t i (by first | exact hbb | (rw [show dt 85 = dt 85 from funext (hF 85 (by decide)), show dt 79 12 = dt 79 12 by first | with_reducible assumption | exact unhid (by with_reducible assumption) | (first | omega | (have z_ := unhid u2_; omega))]; exact hbb)) (by first | with_reducible assumption | exact unhid (by with_reducible assumption) | exact Eq.trans (by with_reducible assumption) hnn | (first | omega | (have z_ := unhid u2_; omega))) hz ht hc hi hn5  (by first | exact True.intro | with_reducible assumption | exact unhid (by with_reducible assumption) | rfl | (first | omega | (have z_ := unhid u2_; omega)) | trivial) (by first | exact True.intro | with_reducible assumption | exact unhid (by with_reducible assumption) | rfl | (first | omega | (have z_ := unhid u2_; omega)) | trivial) (by first | exact True.intro | with_reducible assumption | exact unhid (by with_reducible assumption) | rfl | (first | omega | (have z_ := unhid u2_; omega)) | trivial)) ?_
      rintro _ _ ⟨dt257, rfl, hI258, hF259, h256⟩
      refine ⟨rfl, ?_⟩
      have hF260 : Fr [79, 84] dt dt257 := Fr_tr hF hF259 (by decide)
      rcases h256 with ⟨rfl, h256⟩
      obtain ⟨h256_0, h256_1, h256_2, h256_3, h256_4⟩ := h256
      have w261 : dt257 79 2 = dt 79 2 := h256_1
      have w262 : dt257 79 9 = dt 79 9 := h256_2
      have w263 : dt257 79 10 = dt 79 10 := h256_3
      have w264 : dt257 79 12 = dt 79 12 := h256_4
      have fl265 := RSX_0 h256_0 rfl
      have fe266 : (gC (KF 1 b n) (VF b n) 0) i = g3 i := (rfl : (gC (KF 1 b n) (VF b n) 0) i = (gC (KF 1 b n) (VF b n) 0) i).trans ((show (gC (KF 1 b n) (VF b n) 0) i = gB (g3 i) gOk by exact (gC_3 (by (first | omega | (have z_ := unhid u2_; omega)))).trans (gB_no (by show ¬ ((3 : Int) = 0); decide)).symm).trans (gB_no fl265.1))
      clear h256_1 h256_2 h256_3 h256_4
      refine go_retq PM170 (k := 2) (r := some (.inl 0)) (w1 := (SH, dt257)) rfl ?_
      exact ⟨dt257, rfl, hI258, hF260, (Or.inl ⟨rfl, ⟨by first | exact RSX_f fe266 fl265 (by first | rfl | with_reducible assumption | exact unhid (by with_reducible assumption) | (first | omega | (have z_ := unhid u2_; omega))) (by first | rfl | with_reducible assumption | exact unhid (by with_reducible assumption) | (first | omega | (have z_ := unhid u2_; omega))) | exact RSX_no (k := 1) (j := i) ((rfl : (gC (KF 1 b n) (VF b n) 0) i = (gC (KF 1 b n) (VF b n) 0) i).trans (by show gR1 _ _ _ = _; unfold gR1; rw [if_neg (by (first | omega | (have z_ := unhid u2_; omega)))])) (by decide) (by (first | omega | (have z_ := unhid u2_; omega))) (by show _ = ((TP b n i : Nat) : Int); (first | omega | (have z_ := unhid u2_; omega))), by first | exact True.intro | with_reducible assumption | exact unhid (by with_reducible assumption) | rfl | (first | omega | (have z_ := unhid u2_; omega)) | trivial, by first | exact True.intro | with_reducible assumption | exact unhid (by with_reducible assumption) | rfl | (first | omega | (have z_ := unhid u2_; omega)) | trivial, by first | exact True.intro | with_reducible assumption | exact unhid (by with_reducible assumption) | rfl | (first | omega | (have z_ := unhid u2_; omega)) | trivial, by first | exact True.intro | with_reducible assumption | exact unhid (by with_reducible assumption) | rfl | (first | omega | (have z_ := unhid u2_; omega)) | trivial⟩⟩)⟩
  · skip
    refine go_toq PM170 (k := 1) (pc' := 10) (L' := [some (.inr (.inr (some 79))), none]) (st' := [.inr (.inr (some 79))]) (w' := (SH, dt)) rfl ?_
    refine go_callq PM170 PM164 (Q' := _) rfl rfl rfl rfl (sp_X6_opens_x L xs sio (d + 2) dt hI b n t i (by first | exact hbb | (rw [show dt 85 = dt 85 from funext (hF 85 (by decide)), show dt 79 12 = dt 79 12 by first | with_reducible assumption | exact unhid (by with_reducible assumption) | (first | omega | (have z_ := unhid u1_; omega))]; exact hbb)) (by first | with_reducible assumption | exact unhid (by with_reducible assumption) | exact Eq.trans (by with_reducible assumption) hnn | (first | omega | (have z_ := unhid u1_; omega))) hz ht hc hi hn5  (by first | exact True.intro | with_reducible assumption | exact unhid (by with_reducible assumption) | rfl | (first | omega | (have z_ := unhid u1_; omega)) | trivial) (by first | exact True.intro | with_reducible assumption | exact unhid (by with_reducible assumption) | rfl | (first | omega | (have z_ := unhid u1_; omega)) | trivial) (by first | exact True.intro | with_reducible assumption | exact unhid (by with_reducible assumption) | rfl | (first | omega | (have z_ := unhid u1_; omega)) | trivial)) ?_
    rintro _ _ ⟨dt268, rfl, hI269, hF270, h267⟩
    refine ⟨rfl, ?_⟩
    have hF271 : Fr [79, 84] dt dt268 := Fr_tr hF hF270 (by decide)
    rcases h267 with ⟨rfl, h267⟩
    obtain ⟨h267_0, h267_1, h267_2, h267_3, h267_4⟩ := h267
    have w272 : dt268 79 2 = dt 79 2 := h267_1
    have w273 : dt268 79 9 = dt 79 9 := h267_2
    have w274 : dt268 79 10 = dt 79 10 := h267_3
    have w275 : dt268 79 12 = dt 79 12 := h267_4
    have fl276 := RSX_0 h267_0 rfl
    have fe277 : (gC (KF 1 b n) (VF b n) 0) i = g3 i := (rfl : (gC (KF 1 b n) (VF b n) 0) i = (gC (KF 1 b n) (VF b n) 0) i).trans ((show (gC (KF 1 b n) (VF b n) 0) i = gB (g3 i) gOk by exact (gC_3 (by (first | omega | (have z_ := unhid u1_; omega)))).trans (gB_no (by show ¬ ((3 : Int) = 0); decide)).symm).trans (gB_no fl276.1))
    clear h267_1 h267_2 h267_3 h267_4
    refine go_retq PM170 (k := 2) (r := some (.inl 0)) (w1 := (SH, dt268)) rfl ?_
    exact ⟨dt268, rfl, hI269, hF271, (Or.inl ⟨rfl, ⟨by first | exact RSX_f fe277 fl276 (by first | rfl | with_reducible assumption | exact unhid (by with_reducible assumption) | (first | omega | (have z_ := unhid u1_; omega))) (by first | rfl | with_reducible assumption | exact unhid (by with_reducible assumption) | (first | omega | (have z_ := unhid u1_; omega))) | exact RSX_no (k := 1) (j := i) ((rfl : (gC (KF 1 b n) (VF b n) 0) i = (gC (KF 1 b n) (VF b n) 0) i).trans (by show gR1 _ _ _ = _; unfold gR1; rw [if_neg (by (first | omega | (have z_ := unhid u1_; omega)))])) (by decide) (by (first | omega | (have z_ := unhid u1_; omega))) (by show _ = ((TP b n i : Nat) : Int); (first | omega | (have z_ := unhid u1_; omega))), by first | exact True.intro | with_reducible assumption | exact unhid (by with_reducible assumption) | rfl | (first | omega | (have z_ := unhid u1_; omega)) | trivial, by first | exact True.intro | with_reducible assumption | exact unhid (by with_reducible assumption) | rfl | (first | omega | (have z_ := unhid u1_; omega)) | trivial, by first | exact True.intro | with_reducible assumption | exact unhid (by with_reducible assumption) | rfl | (first | omega | (have z_ := unhid u1_; omega)) | trivial, by first | exact True.intro | with_reducible assumption | exact unhid (by with_reducible assumption) | rfl | (first | omega | (have z_ := unhid u1_; omega)) | trivial⟩⟩)⟩
