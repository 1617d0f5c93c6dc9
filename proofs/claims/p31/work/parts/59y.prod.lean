set_option maxHeartbeats 1500000 in
set_option maxRecDepth 20000 in
theorem sp_X6_product_g (L : Nat) (xs : Nat → Int32) (sio : Option Nat) (d : Nat) (dt : Nat → Nat → Int) (hI : InvC dt) (b : Nat → Int) (n t i : Nat) (hbb : mB (dt 85) (dt 79 12) = b) (hnn : dt 79 12 = (n : Int)) (hz : KZ (KF 1 b n) t) (ht : t ≤ 500) (hc : CUR 1 b n dt i) (hi : i ≤ t) (hn5 : n ≤ 500)  (h_p0 : dt 79 9 = 1) (h_p1 : dt 79 11 ≤ dt 79 15) : GO (am_XX L xs sio) (d + 8) 166 0 [some (.inr (.inr (some 79))), none, none] [] (SH, dt) (fun r w2 => ∃ dt2 : Nat → Nat → Int, w2 = (SH, dt2) ∧ InvC dt2 ∧ Fr [79, 84] dt dt2 ∧ ((r = some (.inl 0) ∧ (RSX 1 b n i dt2 0 ((gT (KF 1 b n) (VF b n)) i)) ∧ (dt2 79 2 = dt 79 2) ∧ (dt2 79 9 = dt 79 9) ∧ (dt2 79 10 = dt 79 10) ∧ (dt2 79 12 = dt 79 12)) ∨ (r = some (.inl 1) ∧ (RSX 1 b n i dt2 1 ((gT (KF 1 b n) (VF b n)) i)) ∧ (dt 79 15 + dt2 79 11 ≤ dt2 79 15 + dt 79 11) ∧ (dt 79 11 + 1 ≤ dt2 79 11) ∧ (dt2 79 15 ≤ 500) ∧ (RXD dt dt2 ((rT (KF 1 b n) (VF b n)) i)) ∧ (dt2 79 2 = dt 79 2) ∧ (dt2 79 9 = dt 79 9) ∧ (dt2 79 10 = dt 79 10) ∧ (dt2 79 12 = dt 79 12) ∧ (dt2 79 17 = dt 79 17) ∧ (dt2 79 20 = dt 79 20)))) := by
  have hF : Fr [79, 84] dt dt := Fr_refl
  have r1 : 0 ≤ dt 79 15 ∧ dt 79 15 ≤ 500 := InvC_get hI 79 15 rfl rfl
  have r2 : 0 ≤ dt 79 11 ∧ dt 79 11 ≤ 510 := InvC_get hI 79 11 rfl rfl
  have r3 : 0 ≤ dt 79 10 ∧ dt 79 10 ≤ 24 := InvC_get hI 79 10 rfl rfl
  have cr0 := hid (CUR_R hc (.inr rfl))
  have cd0 := CUR_d (hc)
  have cb0 := hid (CUR_b hc)
  have cv0 := hid (CUR_v hc)
  have ck0 := hid (KZ_lt (i := i) hz)
  have c10 := hc.1
  refine go_toq PM166 (k := 1) (pc' := 1) (L' := [some (.inr (.inr (some 79))), none, none]) (st' := [.inr (.inr (some 79))]) (w' := (SH, dt)) rfl ?_
  refine go_callq PM166 PM167 (Q' := _) rfl rfl rfl rfl (sp_X6_unit_g L xs sio (d + 0) dt hI b n t i (by first | exact hbb | (rw [show dt 85 = dt 85 from funext (hF 85 (by decide)), show dt 79 12 = dt 79 12 by first | with_reducible assumption | exact unhid (by with_reducible assumption) | fail]; exact hbb)) (by first | with_reducible assumption | exact unhid (by with_reducible assumption) | exact Eq.trans (by with_reducible assumption) hnn | fail) hz ht hc hi hn5  (by first | exact True.intro | with_reducible assumption | exact unhid (by with_reducible assumption) | rfl | fail | trivial) (by first | exact True.intro | with_reducible assumption | exact unhid (by with_reducible assumption) | rfl | fail | trivial)) ?_
  rintro _ _ ⟨dt5, rfl, hI6, hF7, h4⟩
  refine ⟨rfl, ?_⟩
  have hF8 : Fr [79, 84] dt dt5 := Fr_tr hF hF7 (by decide)
  rcases h4 with ⟨rfl, h4⟩ | ⟨rfl, h4⟩
  · skip
    obtain ⟨h4_0, h4_1, h4_2, h4_3, h4_4⟩ := h4
    have w9 : dt5 79 2 = dt 79 2 := h4_1
    have w10 : dt5 79 9 = dt 79 9 := h4_2
    have w11 : dt5 79 10 = dt 79 10 := h4_3
    have w12 : dt5 79 12 = dt 79 12 := h4_4
    have fl13 := RSX_0 h4_0 rfl
    have fe14 : (gT (KF 1 b n) (VF b n)) i = (gU (KF 1 b n)) i := (rfl : (gT (KF 1 b n) (VF b n)) i = (gT (KF 1 b n) (VF b n)) i).trans ((show (gT (KF 1 b n) (VF b n)) i = gB ((gU (KF 1 b n)) i) (gP (KF 1 b n) (VF b n) 600) by rfl).trans (gB_no fl13.1))
    clear h4_1 h4_2 h4_3 h4_4
    refine go_retq PM166 (k := 2) (r := some (.inl 0)) (w1 := (SH, dt5)) rfl ?_
    exact ⟨dt5, rfl, hI6, hF8, (Or.inl ⟨rfl, ⟨by exact RSX_f fe14 fl13 (by first | rfl | with_reducible assumption | exact unhid (by with_reducible assumption) | fail) (by first | rfl | with_reducible assumption | exact unhid (by with_reducible assumption) | fail), by first | exact True.intro | with_reducible assumption | exact unhid (by with_reducible assumption) | rfl | fail | trivial, by first | exact True.intro | with_reducible assumption | exact unhid (by with_reducible assumption) | rfl | fail | trivial, by first | exact True.intro | with_reducible assumption | exact unhid (by with_reducible assumption) | rfl | fail | trivial, by first | exact True.intro | with_reducible assumption | exact unhid (by with_reducible assumption) | rfl | fail | trivial⟩⟩)⟩
  · skip
    obtain ⟨h4_0, h4_1, h4_2, h4_3, h4_4, h4_5, h4_6, h4_7, h4_8, h4_9, h4_10⟩ := h4
    have w15 : dt5 79 2 = dt 79 2 := h4_5
    have w16 : dt5 79 9 = dt 79 9 := h4_6
    have w17 : dt5 79 10 = dt 79 10 := h4_7
    have w18 : dt5 79 12 = dt 79 12 := h4_8
    have w19 : dt5 79 17 = dt 79 17 := h4_9
    have w20 : dt5 79 20 = dt 79 20 := h4_10
    obtain ⟨j21, ej22, hc23⟩ := RSX_1 h4_0 (by decide)
    have hp24 : (gT (KF 1 b n) (VF b n)) i = (gP (KF 1 b n) (VF b n) 600) j21 := (rfl : (gT (KF 1 b n) (VF b n)) i = (gT (KF 1 b n) (VF b n)) i).trans ((show (gT (KF 1 b n) (VF b n)) i = gB ((gU (KF 1 b n)) i) (gP (KF 1 b n) (VF b n) 600) by rfl).trans (by rw [ej22]; exact gB_0))
    have hi25 : j21 ≤ t := by have z := gU_M (K := (KF 1 b n)) (i := i) hz; rw [ej22] at z; have y := z rfl; simp only at y; omega
    have Q26 : RQ (rT (KF 1 b n) (VF b n)) (rP (KF 1 b n) (VF b n) 600) dt dt5 i j21 := RQ_st RQ_0 (by omega) h4_4 (by have y_ := (show (gU (KF 1 b n) i).2 = j21 by rw [ej22]); show eU _ _ i ++ rP _ _ 600 (i + 1) = eU _ _ i ++ rP _ _ 600 j21; rw [← y_, gU_at (by rw [ej22])])
    clear cr0 cb0 cd0 cv0 ck0
    have cr27 := hid (CUR_R hc23 (.inr rfl))
    have cd28 := CUR_d (hc23)
    have cb28 := hid (CUR_b hc23)
    have cv29 := hid (CUR_v hc23)
    have ck30 := hid (KZ_lt (i := j21) hz)
    have c131 := (hc23).1
    have ci32 := hi25
    clear h4_5 h4_6 h4_7 h4_8 h4_9 h4_10
    refine go_toq PM166 (k := 1) (pc' := 9) (L' := [some (.inr (.inr (some 79))), none, none]) (st' := []) (w' := (SH, dt5)) rfl ?_
    have loop267 : ∀ (k_ : Nat) (dt254 : Nat → Nat → Int) (hI255 : InvC dt254) (hF256 : Fr [79, 84] dt dt254) (i257 : ∃ q : Nat, (gT (KF 1 b n) (VF b n)) i = (gP (KF 1 b n) (VF b n) 600) q ∧ CUR 1 b n dt254 q ∧ q ≤ t ∧ RQ (rT (KF 1 b n) (VF b n)) (rP (KF 1 b n) (VF b n) 600) dt dt254 i q) (i258 : dt 79 15 + dt254 79 11 ≤ dt254 79 15 + dt 79 11) (i259 : dt 79 11 + 1 ≤ dt254 79 11) (i260 : dt254 79 15 ≤ 500) (i261 : dt254 79 2 = dt 79 2) (i262 : dt254 79 9 = dt 79 9) (i263 : dt254 79 10 = dt 79 10) (i264 : dt254 79 12 = dt 79 12) (i265 : dt254 79 17 = dt 79 17) (i266 : dt254 79 20 = dt 79 20), (502 - dt254 79 15).toNat < k_ → GO (am_XX L xs sio) (d + 8) 166 9 [some (.inr (.inr (some 79))), none, none] [] (SH, dt254) (fun r w2 => ∃ dt2 : Nat → Nat → Int, w2 = (SH, dt2) ∧ InvC dt2 ∧ Fr [79, 84] dt dt2 ∧ ((r = some (.inl 0) ∧ (RSX 1 b n i dt2 0 ((gT (KF 1 b n) (VF b n)) i)) ∧ (dt2 79 2 = dt 79 2) ∧ (dt2 79 9 = dt 79 9) ∧ (dt2 79 10 = dt 79 10) ∧ (dt2 79 12 = dt 79 12)) ∨ (r = some (.inl 1) ∧ (RSX 1 b n i dt2 1 ((gT (KF 1 b n) (VF b n)) i)) ∧ (dt 79 15 + dt2 79 11 ≤ dt2 79 15 + dt 79 11) ∧ (dt 79 11 + 1 ≤ dt2 79 11) ∧ (dt2 79 15 ≤ 500) ∧ (RXD dt dt2 ((rT (KF 1 b n) (VF b n)) i)) ∧ (dt2 79 2 = dt 79 2) ∧ (dt2 79 9 = dt 79 9) ∧ (dt2 79 10 = dt 79 10) ∧ (dt2 79 12 = dt 79 12) ∧ (dt2 79 17 = dt 79 17) ∧ (dt2 79 20 = dt 79 20)))) := by
      intro k_
      induction k_ with
      | zero => intro dt254 hI255 hF256 i257 i258 i259 i260 i261 i262 i263 i264 i265 i266 hm; exact absurd hm (Nat.not_lt_zero _)
      | succ k_ ih_loop267 =>
        intro dt254 hI255 hF256 i257 i258 i259 i260 i261 i262 i263 i264 i265 i266 hm
        clear cr27 cb28 cd28 cv29 ck30
        obtain ⟨gq, hpq, hcq, hiq, hQq⟩ := i257
        have crq := CUR_R hcq (.inr rfl)
        have cbq := CUR_b hcq
        have cvq := CUR_v hcq
        have ckq := KZ_lt (i := gq) hz
        have c1q := hcq.1
        have r268 : (-2147483648) ≤ dt254 79 14 ∧ dt254 79 14 ≤ 2147483647 := InvC_get hI255 79 14 rfl rfl
        refine go_ifq PM166 (k := 3) (p1 := 29) (p2 := 19) (L' := [some (.inr (.inr (some 79))), none, none]) (st' := []) (w' := (SH, dt254)) rfl (c_eq (a := dt254 79 14) (b := 142) (by first | exact bnd r268 (by decide) (by decide) | exact ⟨by fail, by fail⟩) ⟨by decide, by decide⟩) (fun c269 => ?_) (fun c269 => ?_)
        · skip
          refine go_ifq PM166 (k := 3) (p1 := 43) (p2 := 39) (L' := [some (.inr (.inr (some 79))), none, none]) (st' := []) (w' := (SH, dt254)) rfl (c_ne (a := dt254 79 14) (b := 147) (by first | exact bnd r268 (by decide) (by decide) | exact ⟨by fail, by fail⟩) ⟨by decide, by decide⟩) (fun c270 => ?_) (fun c270 => ?_)
          · skip
            replace c270 := hid c270
            refine go_toq PM166 (k := 3) (pc' := 46) (L' := [some (.inr (.inr (some 79))), some (.inl 0), none]) (st' := [.inr (.inr (some 79))]) (w' := (SH, dt254)) rfl ?_
            refine go_callq PM166 PM159 (Q' := _) rfl rfl rfl rfl (sp_X6_next0_p1 L xs sio (d + 1) dt254 hI255   (by first | exact True.intro | with_reducible assumption | exact unhid (by with_reducible assumption) | rfl | omega | trivial) (by first | exact True.intro | with_reducible assumption | exact unhid (by with_reducible assumption) | rfl | omega | trivial)) ?_
            rintro _ _ ⟨dt272, rfl, hI273, hF274, h271⟩
            refine ⟨rfl, ?_⟩
            have hF275 : Fr [79, 84] dt dt272 := Fr_tr hF256 hF274 (by decide)
            rcases h271 with ⟨rfl, h271⟩
            obtain ⟨h271_0, h271_1, h271_2, h271_3, h271_4, h271_5, h271_6, h271_7, h271_8⟩ := h271
            have w276 : dt272 79 2 = dt254 79 2 := h271_2
            have w277 : dt272 79 9 = dt254 79 9 := h271_3
            have w278 : dt272 79 10 = dt254 79 10 := h271_4
            have w279 : dt272 79 11 = dt254 79 11 := h271_5
            have w280 : dt272 79 12 = dt254 79 12 := h271_6
            have w281 : dt272 79 17 = dt254 79 17 := h271_7
            have w282 : dt272 79 20 = dt254 79 20 := h271_8
            have hq283 := h271_0
            rw [show dt254 85 = dt 85 from funext (hF256 85 (by decide)), show dt254 79 12 = dt 79 12 by first | with_reducible assumption | exact unhid (by with_reducible assumption) | fail, hbb, show (dt 79 12).toNat = n from (congrArg Int.toNat hnn).trans (Int.toNat_natCast n)] at hq283
            have hc284 : CUR 1 b n dt272 (gq + 1) := CUR_n hcq hq283
            have hi285 : gq + 1 ≤ t := by (have z0_ := unhid c270; omega)
            have av286 : dt254 79 15 + 1 ≤ dt254 79 13 := by (have z0_ := unhid c270; omega)
            have kk_287 : KF 1 b n gq = 42 := by (have z0_ := unhid c270; omega)
            have hp288 : (gT (KF 1 b n) (VF b n)) i = (fun i => gB (gU (KF 1 b n) i) (gP (KF 1 b n) (VF b n) 600)) (gq + 1) := hpq.trans (by show gP _ _ 600 gq = _; rw [gP_u hz (by (have z0_ := unhid c270; omega)) (by (have z0_ := unhid c270; omega))]; first | (rw [if_pos (by (have z0_ := unhid c270; omega))]; done) | (rw [if_pos (by (have z0_ := unhid c270; fail))]; rfl))
            clear crq cbq cvq ckq
            have cr289 := hid (CUR_R hc284 (.inr rfl))
            have cd290 := CUR_d (hc284)
            have cb290 := hid (CUR_b hc284)
            have cv291 := hid (CUR_v hc284)
            have ck292 := hid (KZ_lt (i := (gq + 1)) hz)
            have c1293 := (hc284).1
            have ci294 := hi285
            clear h271_2 h271_3 h271_4 h271_5 h271_6 h271_7 h271_8
            refine go_toq PM166 (k := 3) (pc' := 82) (L' := [some (.inr (.inr (some 79))), some (.inl 0), none]) (st' := [.inr (.inr (some 79))]) (w' := (SH, dt272)) rfl ?_
            refine go_callq PM166 PM167 (Q' := _) rfl rfl rfl rfl (sp_X6_unit_g L xs sio (d + 0) dt272 hI273 b n t (gq + 1) (by first | exact hbb | (rw [show dt272 85 = dt 85 from funext (hF275 85 (by decide)), show dt272 79 12 = dt 79 12 by first | with_reducible assumption | exact unhid (by with_reducible assumption) | omega]; exact hbb)) (by first | with_reducible assumption | exact unhid (by with_reducible assumption) | exact Eq.trans (by with_reducible assumption) hnn | omega) hz ht hc284 hi285 hn5  (by first | exact True.intro | with_reducible assumption | exact unhid (by with_reducible assumption) | rfl | omega | trivial) (by first | exact True.intro | with_reducible assumption | exact unhid (by with_reducible assumption) | rfl | omega | trivial)) ?_
            rintro _ _ ⟨dt296, rfl, hI297, hF298, h295⟩
            refine ⟨rfl, ?_⟩
            have hF299 : Fr [79, 84] dt dt296 := Fr_tr hF275 hF298 (by decide)
            rcases h295 with ⟨rfl, h295⟩ | ⟨rfl, h295⟩
            · skip
              obtain ⟨h295_0, h295_1, h295_2, h295_3, h295_4⟩ := h295
              have w300 : dt296 79 2 = dt254 79 2 := h295_1.trans w276
              have w301 : dt296 79 9 = dt254 79 9 := h295_2.trans w277
              have w302 : dt296 79 10 = dt254 79 10 := h295_3.trans w278
              have w303 : dt296 79 12 = dt254 79 12 := h295_4.trans w280
              have fl304 := RSX_0 h295_0 rfl
              have fe305 : (gT (KF 1 b n) (VF b n)) i = (gU (KF 1 b n)) (gq + 1) := hp288.trans ((show (fun i => gB (gU (KF 1 b n) i) (gP (KF 1 b n) (VF b n) 600)) (gq + 1) = gB ((gU (KF 1 b n)) (gq + 1)) (gP (KF 1 b n) (VF b n) 600) by rfl).trans (gB_no fl304.1))
              clear h295_1 w276 h295_2 w277 h295_3 h295_4 w280
              refine go_retq PM166 (k := 2) (r := some (.inl 0)) (w1 := (SH, dt296)) rfl ?_
              exact ⟨dt296, rfl, hI297, hF299, (Or.inl ⟨rfl, ⟨by exact RSX_f fe305 fl304 (by first | rfl | with_reducible assumption | exact unhid (by with_reducible assumption) | fail) (by first | rfl | with_reducible assumption | exact unhid (by with_reducible assumption) | fail), by first | exact True.intro | with_reducible assumption | exact unhid (by with_reducible assumption) | rfl | omega | trivial, by first | exact True.intro | with_reducible assumption | exact unhid (by with_reducible assumption) | rfl | omega | trivial, by first | exact True.intro | with_reducible assumption | exact unhid (by with_reducible assumption) | rfl | omega | trivial, by first | exact True.intro | with_reducible assumption | exact unhid (by with_reducible assumption) | rfl | omega | trivial⟩⟩)⟩
            · skip
              obtain ⟨h295_0, h295_1, h295_2, h295_3, h295_4, h295_5, h295_6, h295_7, h295_8, h295_9, h295_10⟩ := h295
              have w306 : dt296 79 2 = dt254 79 2 := h295_5.trans w276
              have w307 : dt296 79 9 = dt254 79 9 := h295_6.trans w277
              have w308 : dt296 79 10 = dt254 79 10 := h295_7.trans w278
              have w309 : dt296 79 12 = dt254 79 12 := h295_8.trans w280
              have w310 : dt296 79 17 = dt254 79 17 := h295_9.trans w281
              have w311 : dt296 79 20 = dt254 79 20 := h295_10.trans w282
              obtain ⟨j312, ej313, hc314⟩ := RSX_1 h295_0 (by decide)
              have hp315 : (gT (KF 1 b n) (VF b n)) i = (gP (KF 1 b n) (VF b n) 600) j312 := hp288.trans ((show (fun i => gB (gU (KF 1 b n) i) (gP (KF 1 b n) (VF b n) 600)) (gq + 1) = gB ((gU (KF 1 b n)) (gq + 1)) (gP (KF 1 b n) (VF b n) 600) by rfl).trans (by rw [ej313]; exact gB_0))
              have hi316 : j312 ≤ t := by have z := gU_M (K := (KF 1 b n)) (i := (gq + 1)) hz; rw [ej313] at z; have y := z rfl; simp only at y; omega
              have Q317 : RQ (rT (KF 1 b n) (VF b n)) (fun q_ => [-3] ++ rP (KF 1 b n) (VF b n) 600 q_) dt dt296 i j312 := RQ_st hQq (by omega) (RXD_l (by omega) (fun j => hF274 84 (by decide) j) h295_4) (by have y_ := congrArg Prod.snd (gU_at (K := (KF 1 b n)) (i := (gq + 1)) (by rw [ej313])); rw [ej313] at y_; simp only at y_; rw [rP_u hz (by omega), if_pos (by omega), y_])
              clear cr289 cb290 cd290 cv291 ck292
              have cr318 := hid (CUR_R hc314 (.inr rfl))
              have cd319 := CUR_d (hc314)
              have cb319 := hid (CUR_b hc314)
              have cv320 := hid (CUR_v hc314)
              have ck321 := hid (KZ_lt (i := j312) hz)
              have c1322 := (hc314).1
              have ci323 := hi316
              clear h295_5 w276 h295_6 w277 h295_7 h295_8 w280 h295_9 w281 h295_10 w282
              refine go_toq PM166 (k := 4) (pc' := 94) (L' := [some (.inr (.inr (some 79))), some (.inl 0), none]) (st' := [.inl 0, .inl 9, .inr (.inr (some 79))]) (w' := (SH, dt296)) rfl ?_
              refine go_callq PM166 PM163 (Q' := _) rfl rfl rfl rfl (sp_X6_lay_g L xs sio (d + 7) dt296 hI297  9 ⟨by decide, by decide⟩ 0 ⟨by decide, by decide⟩ (by first | exact True.intro | with_reducible assumption | exact unhid (by with_reducible assumption) | rfl | omega | trivial) (by first | exact True.intro | with_reducible assumption | exact unhid (by with_reducible assumption) | rfl | omega | trivial)) ?_
              rintro _ _ ⟨dt325, rfl, hI326, hF327, h324⟩
              refine ⟨rfl, ?_⟩
              have hF328 : Fr [79, 84] dt dt325 := Fr_tr hF299 hF327 (by decide)
              rcases h324 with ⟨rfl, h324⟩
              obtain ⟨h324_0, h324_1, h324_2, h324_3, h324_4, h324_5, h324_6, h324_7, h324_8, h324_9, h324_10, h324_11⟩ := h324
              have w329 : dt325 79 2 = dt254 79 2 := h324_2.trans w306
              have w330 : dt325 79 9 = dt254 79 9 := h324_3.trans w307
              have w331 : dt325 79 10 = dt254 79 10 := h324_4.trans w308
              have w332 : dt325 79 12 = dt254 79 12 := h324_5.trans w309
              have w333 : dt325 79 13 = dt296 79 13 := h324_6
              have w334 : dt325 79 14 = dt296 79 14 := h324_7
              have w335 : dt325 79 15 = dt296 79 15 := h324_8
              have w336 : dt325 79 16 = dt296 79 16 := h324_9
              have w337 : dt325 79 17 = dt254 79 17 := h324_10.trans w310
              have w338 : dt325 79 20 = dt254 79 20 := h324_11.trans w311
              have Q339 : RQ (rT (KF 1 b n) (VF b n)) (rP (KF 1 b n) (VF b n) 600) dt dt325 i j312 := RQ_st Q317 (by omega) h324_1 (by rfl)
              have hc340 : CUR 1 b n dt325 j312 := CUR_sm hc314 (by first | with_reducible assumption | exact unhid (by with_reducible assumption) | rfl | fail) (by first | with_reducible assumption | exact unhid (by with_reducible assumption) | rfl | fail) (by first | with_reducible assumption | exact unhid (by with_reducible assumption) | rfl | fail) (by first | with_reducible assumption | exact unhid (by with_reducible assumption) | rfl | fail)
              clear h324_2 w306 h324_3 w307 h324_4 h324_5 w309 h324_6 h324_7 h324_8 h324_9 h324_10 w310 h324_11 w311
              refine go_toq PM166 (k := 1) (pc' := 9) (L' := [some (.inr (.inr (some 79))), some (.inl 0), none]) (st' := []) (w' := (SH, dt325)) rfl ?_
              exact GO.le (ih_loop267 dt325 hI326 hF328 (by exact ⟨_, hp315, hc340, hi316, Q339⟩) (by first | with_reducible assumption | exact unhid (by with_reducible assumption) | omega | exact ⟨_, hp315, hc340, hi316, Q339⟩) (by first | with_reducible assumption | exact unhid (by with_reducible assumption) | omega | exact ⟨_, hp315, hc340, hi316, Q339⟩) (by first | with_reducible assumption | exact unhid (by with_reducible assumption) | omega | exact ⟨_, hp315, hc340, hi316, Q339⟩) (by first | with_reducible assumption | exact unhid (by with_reducible assumption) | omega | exact ⟨_, hp315, hc340, hi316, Q339⟩) (by first | with_reducible assumption | exact unhid (by with_reducible assumption) | omega | exact ⟨_, hp315, hc340, hi316, Q339⟩) (by first | with_reducible assumption | exact unhid (by with_reducible assumption) | omega | exact ⟨_, hp315, hc340, hi316, Q339⟩) (by first | with_reducible assumption | exact unhid (by with_reducible assumption) | omega | exact ⟨_, hp315, hc340, hi316, Q339⟩) (by first | with_reducible assumption | exact unhid (by with_reducible assumption) | omega | exact ⟨_, hp315, hc340, hi316, Q339⟩) (by first | with_reducible assumption | exact unhid (by with_reducible assumption) | omega | exact ⟨_, hp315, hc340, hi316, Q339⟩) (by omega)) ⟨.inl rfl, .inr ⟨rfl, trivial⟩, .inl rfl, trivial⟩
          · exfalso; omega
        · skip
          replace c269 := hid c269
          refine go_ifq PM166 (k := 3) (p1 := 100) (p2 := 29) (L' := [some (.inr (.inr (some 79))), none, none]) (st' := []) (w' := (SH, dt254)) rfl (c_ne (a := dt254 79 14) (b := 147) (by first | exact bnd r268 (by decide) (by decide) | exact ⟨by fail, by fail⟩) ⟨by decide, by decide⟩) (fun c341 => ?_) (fun c341 => ?_)
          · skip
            replace c341 := hid c341
            refine go_retq PM166 (k := 1) (r := some (.inl 1)) (w1 := (SH, dt254)) rfl ?_
            exact ⟨dt254, rfl, hI255, hF256, (Or.inr ⟨rfl, ⟨by exact RSX_ok (hpq.trans (by show gP _ _ 600 gq = _; rw [gP_u hz (by omega) (by omega), if_neg (by (have z_ := unhid c269; omega)), if_neg (by (have z_ := unhid c341; omega))])) hcq, by first | exact True.intro | with_reducible assumption | exact unhid (by with_reducible assumption) | rfl | fail | trivial, by first | exact True.intro | with_reducible assumption | exact unhid (by with_reducible assumption) | rfl | fail | trivial, by exact (InvC_get (by assumption) 79 15 rfl rfl).2, by exact RQ_e (RQ_g hQq (by rw [rP_u hz (by omega), if_neg (by (have z_ := unhid c269; omega)), if_neg (by (have z_ := unhid c341; omega))]; rfl)), by first | exact True.intro | with_reducible assumption | exact unhid (by with_reducible assumption) | rfl | fail | trivial, by first | exact True.intro | with_reducible assumption | exact unhid (by with_reducible assumption) | rfl | fail | trivial, by first | exact True.intro | with_reducible assumption | exact unhid (by with_reducible assumption) | rfl | fail | trivial, by first | exact True.intro | with_reducible assumption | exact unhid (by with_reducible assumption) | rfl | fail | trivial, by first | exact True.intro | with_reducible assumption | exact unhid (by with_reducible assumption) | rfl | fail | trivial, by first | exact True.intro | with_reducible assumption | exact unhid (by with_reducible assumption) | rfl | fail | trivial⟩⟩)⟩
          · skip
            refine go_ifq PM166 (k := 3) (p1 := 43) (p2 := 39) (L' := [some (.inr (.inr (some 79))), none, none]) (st' := []) (w' := (SH, dt254)) rfl (c_ne (a := dt254 79 14) (b := 147) (by first | exact bnd r268 (by decide) (by decide) | exact ⟨by fail, by fail⟩) ⟨by decide, by decide⟩) (fun c342 => ?_) (fun c342 => ?_)
            · skip
              replace c342 := hid c342
              refine go_toq PM166 (k := 3) (pc' := 46) (L' := [some (.inr (.inr (some 79))), some (.inl 0), none]) (st' := [.inr (.inr (some 79))]) (w' := (SH, dt254)) rfl ?_
              refine go_callq PM166 PM159 (Q' := _) rfl rfl rfl rfl (sp_X6_next0_p1 L xs sio (d + 1) dt254 hI255   (by first | exact True.intro | with_reducible assumption | exact unhid (by with_reducible assumption) | rfl | omega | trivial) (by first | exact True.intro | with_reducible assumption | exact unhid (by with_reducible assumption) | rfl | omega | trivial)) ?_
              rintro _ _ ⟨dt344, rfl, hI345, hF346, h343⟩
              refine ⟨rfl, ?_⟩
              have hF347 : Fr [79, 84] dt dt344 := Fr_tr hF256 hF346 (by decide)
              rcases h343 with ⟨rfl, h343⟩
              obtain ⟨h343_0, h343_1, h343_2, h343_3, h343_4, h343_5, h343_6, h343_7, h343_8⟩ := h343
              have w348 : dt344 79 2 = dt254 79 2 := h343_2
              have w349 : dt344 79 9 = dt254 79 9 := h343_3
              have w350 : dt344 79 10 = dt254 79 10 := h343_4
              have w351 : dt344 79 11 = dt254 79 11 := h343_5
              have w352 : dt344 79 12 = dt254 79 12 := h343_6
              have w353 : dt344 79 17 = dt254 79 17 := h343_7
              have w354 : dt344 79 20 = dt254 79 20 := h343_8
              have hq355 := h343_0
              rw [show dt254 85 = dt 85 from funext (hF256 85 (by decide)), show dt254 79 12 = dt 79 12 by first | with_reducible assumption | exact unhid (by with_reducible assumption) | fail, hbb, show (dt 79 12).toNat = n from (congrArg Int.toNat hnn).trans (Int.toNat_natCast n)] at hq355
              have hc356 : CUR 1 b n dt344 (gq + 1) := CUR_n hcq hq355
              have hi357 : gq + 1 ≤ t := by (have z0_ := unhid c269; have z1_ := unhid c342; omega)
              have av358 : dt254 79 15 + 1 ≤ dt254 79 13 := by (have z0_ := unhid c269; have z1_ := unhid c342; omega)
              have kk_359 : KF 1 b n gq = 42 := by (have z0_ := unhid c269; have z1_ := unhid c342; omega)
              have hp360 : (gT (KF 1 b n) (VF b n)) i = (fun i => gB (gU (KF 1 b n) i) (gP (KF 1 b n) (VF b n) 600)) (gq + 1) := hpq.trans (by show gP _ _ 600 gq = _; rw [gP_u hz (by (have z0_ := unhid c269; have z1_ := unhid c342; omega)) (by (have z0_ := unhid c269; have z1_ := unhid c342; omega))]; first | (rw [if_pos (by (have z0_ := unhid c269; have z1_ := unhid c342; omega))]; done) | (rw [if_pos (by (have z0_ := unhid c269; have z1_ := unhid c342; fail))]; rfl))
              clear crq cbq cvq ckq
              have cr361 := hid (CUR_R hc356 (.inr rfl))
              have cd362 := CUR_d (hc356)
              have cb362 := hid (CUR_b hc356)
              have cv363 := hid (CUR_v hc356)
              have ck364 := hid (KZ_lt (i := (gq + 1)) hz)
              have c1365 := (hc356).1
              have ci366 := hi357
              clear h343_2 h343_3 h343_4 h343_5 h343_6 h343_7 h343_8
              refine go_toq PM166 (k := 3) (pc' := 82) (L' := [some (.inr (.inr (some 79))), some (.inl 0), none]) (st' := [.inr (.inr (some 79))]) (w' := (SH, dt344)) rfl ?_
              refine go_callq PM166 PM167 (Q' := _) rfl rfl rfl rfl (sp_X6_unit_g L xs sio (d + 0) dt344 hI345 b n t (gq + 1) (by first | exact hbb | (rw [show dt344 85 = dt 85 from funext (hF347 85 (by decide)), show dt344 79 12 = dt 79 12 by first | with_reducible assumption | exact unhid (by with_reducible assumption) | omega]; exact hbb)) (by first | with_reducible assumption | exact unhid (by with_reducible assumption) | exact Eq.trans (by with_reducible assumption) hnn | omega) hz ht hc356 hi357 hn5  (by first | exact True.intro | with_reducible assumption | exact unhid (by with_reducible assumption) | rfl | omega | trivial) (by first | exact True.intro | with_reducible assumption | exact unhid (by with_reducible assumption) | rfl | omega | trivial)) ?_
              rintro _ _ ⟨dt368, rfl, hI369, hF370, h367⟩
              refine ⟨rfl, ?_⟩
              have hF371 : Fr [79, 84] dt dt368 := Fr_tr hF347 hF370 (by decide)
              rcases h367 with ⟨rfl, h367⟩ | ⟨rfl, h367⟩
              · skip
                obtain ⟨h367_0, h367_1, h367_2, h367_3, h367_4⟩ := h367
                have w372 : dt368 79 2 = dt254 79 2 := h367_1.trans w348
                have w373 : dt368 79 9 = dt254 79 9 := h367_2.trans w349
                have w374 : dt368 79 10 = dt254 79 10 := h367_3.trans w350
                have w375 : dt368 79 12 = dt254 79 12 := h367_4.trans w352
                have fl376 := RSX_0 h367_0 rfl
                have fe377 : (gT (KF 1 b n) (VF b n)) i = (gU (KF 1 b n)) (gq + 1) := hp360.trans ((show (fun i => gB (gU (KF 1 b n) i) (gP (KF 1 b n) (VF b n) 600)) (gq + 1) = gB ((gU (KF 1 b n)) (gq + 1)) (gP (KF 1 b n) (VF b n) 600) by rfl).trans (gB_no fl376.1))
                clear h367_1 w348 h367_2 w349 h367_3 h367_4 w352
                refine go_retq PM166 (k := 2) (r := some (.inl 0)) (w1 := (SH, dt368)) rfl ?_
                exact ⟨dt368, rfl, hI369, hF371, (Or.inl ⟨rfl, ⟨by exact RSX_f fe377 fl376 (by first | rfl | with_reducible assumption | exact unhid (by with_reducible assumption) | fail) (by first | rfl | with_reducible assumption | exact unhid (by with_reducible assumption) | fail), by first | exact True.intro | with_reducible assumption | exact unhid (by with_reducible assumption) | rfl | omega | trivial, by first | exact True.intro | with_reducible assumption | exact unhid (by with_reducible assumption) | rfl | omega | trivial, by first | exact True.intro | with_reducible assumption | exact unhid (by with_reducible assumption) | rfl | omega | trivial, by first | exact True.intro | with_reducible assumption | exact unhid (by with_reducible assumption) | rfl | omega | trivial⟩⟩)⟩
              · skip
                obtain ⟨h367_0, h367_1, h367_2, h367_3, h367_4, h367_5, h367_6, h367_7, h367_8, h367_9, h367_10⟩ := h367
                have w378 : dt368 79 2 = dt254 79 2 := h367_5.trans w348
                have w379 : dt368 79 9 = dt254 79 9 := h367_6.trans w349
                have w380 : dt368 79 10 = dt254 79 10 := h367_7.trans w350
                have w381 : dt368 79 12 = dt254 79 12 := h367_8.trans w352
                have w382 : dt368 79 17 = dt254 79 17 := h367_9.trans w353
                have w383 : dt368 79 20 = dt254 79 20 := h367_10.trans w354
                obtain ⟨j384, ej385, hc386⟩ := RSX_1 h367_0 (by decide)
                have hp387 : (gT (KF 1 b n) (VF b n)) i = (gP (KF 1 b n) (VF b n) 600) j384 := hp360.trans ((show (fun i => gB (gU (KF 1 b n) i) (gP (KF 1 b n) (VF b n) 600)) (gq + 1) = gB ((gU (KF 1 b n)) (gq + 1)) (gP (KF 1 b n) (VF b n) 600) by rfl).trans (by rw [ej385]; exact gB_0))
                have hi388 : j384 ≤ t := by have z := gU_M (K := (KF 1 b n)) (i := (gq + 1)) hz; rw [ej385] at z; have y := z rfl; simp only at y; omega
                have Q389 : RQ (rT (KF 1 b n) (VF b n)) (fun q_ => [-3] ++ rP (KF 1 b n) (VF b n) 600 q_) dt dt368 i j384 := RQ_st hQq (by omega) (RXD_l (by omega) (fun j => hF346 84 (by decide) j) h367_4) (by have y_ := congrArg Prod.snd (gU_at (K := (KF 1 b n)) (i := (gq + 1)) (by rw [ej385])); rw [ej385] at y_; simp only at y_; rw [rP_u hz (by omega), if_pos (by omega), y_])
                clear cr361 cb362 cd362 cv363 ck364
                have cr390 := hid (CUR_R hc386 (.inr rfl))
                have cd391 := CUR_d (hc386)
                have cb391 := hid (CUR_b hc386)
                have cv392 := hid (CUR_v hc386)
                have ck393 := hid (KZ_lt (i := j384) hz)
                have c1394 := (hc386).1
                have ci395 := hi388
                clear h367_5 w348 h367_6 w349 h367_7 h367_8 w352 h367_9 w353 h367_10 w354
                refine go_toq PM166 (k := 4) (pc' := 94) (L' := [some (.inr (.inr (some 79))), some (.inl 0), none]) (st' := [.inl 0, .inl 9, .inr (.inr (some 79))]) (w' := (SH, dt368)) rfl ?_
                refine go_callq PM166 PM163 (Q' := _) rfl rfl rfl rfl (sp_X6_lay_g L xs sio (d + 7) dt368 hI369  9 ⟨by decide, by decide⟩ 0 ⟨by decide, by decide⟩ (by first | exact True.intro | with_reducible assumption | exact unhid (by with_reducible assumption) | rfl | omega | trivial) (by first | exact True.intro | with_reducible assumption | exact unhid (by with_reducible assumption) | rfl | omega | trivial)) ?_
                rintro _ _ ⟨dt397, rfl, hI398, hF399, h396⟩
                refine ⟨rfl, ?_⟩
                have hF400 : Fr [79, 84] dt dt397 := Fr_tr hF371 hF399 (by decide)
                rcases h396 with ⟨rfl, h396⟩
                obtain ⟨h396_0, h396_1, h396_2, h396_3, h396_4, h396_5, h396_6, h396_7, h396_8, h396_9, h396_10, h396_11⟩ := h396
                have w401 : dt397 79 2 = dt254 79 2 := h396_2.trans w378
                have w402 : dt397 79 9 = dt254 79 9 := h396_3.trans w379
                have w403 : dt397 79 10 = dt254 79 10 := h396_4.trans w380
                have w404 : dt397 79 12 = dt254 79 12 := h396_5.trans w381
                have w405 : dt397 79 13 = dt368 79 13 := h396_6
                have w406 : dt397 79 14 = dt368 79 14 := h396_7
                have w407 : dt397 79 15 = dt368 79 15 := h396_8
                have w408 : dt397 79 16 = dt368 79 16 := h396_9
                have w409 : dt397 79 17 = dt254 79 17 := h396_10.trans w382
                have w410 : dt397 79 20 = dt254 79 20 := h396_11.trans w383
                have Q411 : RQ (rT (KF 1 b n) (VF b n)) (rP (KF 1 b n) (VF b n) 600) dt dt397 i j384 := RQ_st Q389 (by omega) h396_1 (by rfl)
                have hc412 : CUR 1 b n dt397 j384 := CUR_sm hc386 (by first | with_reducible assumption | exact unhid (by with_reducible assumption) | rfl | fail) (by first | with_reducible assumption | exact unhid (by with_reducible assumption) | rfl | fail) (by first | with_reducible assumption | exact unhid (by with_reducible assumption) | rfl | fail) (by first | with_reducible assumption | exact unhid (by with_reducible assumption) | rfl | fail)
                clear h396_2 w378 h396_3 w379 h396_4 h396_5 w381 h396_6 h396_7 h396_8 h396_9 h396_10 w382 h396_11 w383
                refine go_toq PM166 (k := 1) (pc' := 9) (L' := [some (.inr (.inr (some 79))), some (.inl 0), none]) (st' := []) (w' := (SH, dt397)) rfl ?_
                exact GO.le (ih_loop267 dt397 hI398 hF400 (by exact ⟨_, hp387, hc412, hi388, Q411⟩) (by first | with_reducible assumption | exact unhid (by with_reducible assumption) | omega | exact ⟨_, hp387, hc412, hi388, Q411⟩) (by first | with_reducible assumption | exact unhid (by with_reducible assumption) | omega | exact ⟨_, hp387, hc412, hi388, Q411⟩) (by first | with_reducible assumption | exact unhid (by with_reducible assumption) | omega | exact ⟨_, hp387, hc412, hi388, Q411⟩) (by first | with_reducible assumption | exact unhid (by with_reducible assumption) | omega | exact ⟨_, hp387, hc412, hi388, Q411⟩) (by first | with_reducible assumption | exact unhid (by with_reducible assumption) | omega | exact ⟨_, hp387, hc412, hi388, Q411⟩) (by first | with_reducible assumption | exact unhid (by with_reducible assumption) | omega | exact ⟨_, hp387, hc412, hi388, Q411⟩) (by first | with_reducible assumption | exact unhid (by with_reducible assumption) | omega | exact ⟨_, hp387, hc412, hi388, Q411⟩) (by first | with_reducible assumption | exact unhid (by with_reducible assumption) | omega | exact ⟨_, hp387, hc412, hi388, Q411⟩) (by first | with_reducible assumption | exact unhid (by with_reducible assumption) | omega | exact ⟨_, hp387, hc412, hi388, Q411⟩) (by omega)) ⟨.inl rfl, .inr ⟨rfl, trivial⟩, .inl rfl, trivial⟩
            · skip
              refine go_toq PM166 (k := 4) (pc' := 46) (L' := [some (.inr (.inr (some 79))), some (.inl 1), none]) (st' := [.inr (.inr (some 79))]) (w' := (SH, dt254)) rfl ?_
              refine go_callq PM166 PM159 (Q' := _) rfl rfl rfl rfl (sp_X6_next0_p1 L xs sio (d + 1) dt254 hI255   (by first | exact True.intro | with_reducible assumption | exact unhid (by with_reducible assumption) | rfl | omega | trivial) (by first | exact True.intro | with_reducible assumption | exact unhid (by with_reducible assumption) | rfl | omega | trivial)) ?_
              rintro _ _ ⟨dt414, rfl, hI415, hF416, h413⟩
              refine ⟨rfl, ?_⟩
              have hF417 : Fr [79, 84] dt dt414 := Fr_tr hF256 hF416 (by decide)
              rcases h413 with ⟨rfl, h413⟩
              obtain ⟨h413_0, h413_1, h413_2, h413_3, h413_4, h413_5, h413_6, h413_7, h413_8⟩ := h413
              have w418 : dt414 79 2 = dt254 79 2 := h413_2
              have w419 : dt414 79 9 = dt254 79 9 := h413_3
              have w420 : dt414 79 10 = dt254 79 10 := h413_4
              have w421 : dt414 79 11 = dt254 79 11 := h413_5
              have w422 : dt414 79 12 = dt254 79 12 := h413_6
              have w423 : dt414 79 17 = dt254 79 17 := h413_7
              have w424 : dt414 79 20 = dt254 79 20 := h413_8
              have hq425 := h413_0
              rw [show dt254 85 = dt 85 from funext (hF256 85 (by decide)), show dt254 79 12 = dt 79 12 by first | with_reducible assumption | exact unhid (by with_reducible assumption) | fail, hbb, show (dt 79 12).toNat = n from (congrArg Int.toNat hnn).trans (Int.toNat_natCast n)] at hq425
              have hc426 : CUR 1 b n dt414 (gq + 1) := CUR_n hcq hq425
              have hi427 : gq + 1 ≤ t := by (have z0_ := unhid c269; omega)
              have av428 : dt254 79 15 + 1 ≤ dt254 79 13 := by (have z0_ := unhid c269; omega)
              have kk_429 : KF 1 b n gq = 47 := by (have z0_ := unhid c269; omega)
              have hp430 : (gT (KF 1 b n) (VF b n)) i = (fun i => gB (gD (KF 1 b n) (VF b n) i) (gP (KF 1 b n) (VF b n) 600)) (gq + 1) := hpq.trans (by show gP _ _ 600 gq = _; rw [gP_u hz (by (have z0_ := unhid c269; omega)) (by (have z0_ := unhid c269; omega))]; first | (rw [if_neg (by (have z0_ := unhid c269; omega)), if_pos (by (have z0_ := unhid c269; omega))]; done) | (rw [if_neg (by (have z0_ := unhid c269; fail)), if_pos (by (have z0_ := unhid c269; fail))]; rfl))
              clear crq cbq cvq ckq
              have cr431 := hid (CUR_R hc426 (.inr rfl))
              have cd432 := CUR_d (hc426)
              have cb432 := hid (CUR_b hc426)
              have cv433 := hid (CUR_v hc426)
              have ck434 := hid (KZ_lt (i := (gq + 1)) hz)
              have c1435 := (hc426).1
              have ci436 := hi427
              clear h413_2 h413_3 h413_4 h413_5 h413_6 h413_7 h413_8
              have r437 : 0 ≤ dt414 79 16 ∧ dt414 79 16 ≤ 9999 := InvC_get hI415 79 16 rfl rfl
              refine go_toq PM166 (k := 8) (pc' := 63) (L' := [some (.inr (.inr (some 79))), some (.inl 1), some (.inl (dt414 79 16))]) (st' := [.inl 9999, .inl 1, .inr (.inr (some 79))]) (w' := (SH, dt414)) rfl ?_
              refine go_callq PM166 PM162 (Q' := _) rfl rfl rfl rfl (sp_X6_number_g1d L xs sio (d + 0) dt414 hI415 b n t (gq + 1) (by first | exact hbb | (rw [show dt414 85 = dt 85 from funext (hF417 85 (by decide)), show dt414 79 12 = dt 79 12 by first | with_reducible assumption | exact unhid (by with_reducible assumption) | omega]; exact hbb)) (by first | with_reducible assumption | exact unhid (by with_reducible assumption) | exact Eq.trans (by with_reducible assumption) hnn | omega) hz ht hc426 hi427 hn5  (by first | exact True.intro | with_reducible assumption | exact unhid (by with_reducible assumption) | rfl | omega | trivial)) ?_
              rintro _ _ ⟨dt439, rfl, hI440, hF441, h438⟩
              refine ⟨rfl, ?_⟩
              have hF442 : Fr [79, 84] dt dt439 := Fr_tr hF417 hF441 (by decide)
              rcases h438 with ⟨rfl, h438⟩ | ⟨rfl, h438⟩
              · skip
                obtain ⟨h438_0, h438_1, h438_2, h438_3, h438_4⟩ := h438
                have w443 : dt439 79 2 = dt254 79 2 := h438_1.trans w418
                have w444 : dt439 79 9 = dt254 79 9 := h438_2.trans w419
                have w445 : dt439 79 10 = dt254 79 10 := h438_3.trans w420
                have w446 : dt439 79 12 = dt254 79 12 := h438_4.trans w422
                have fl447 := RSX_0 h438_0 rfl
                have fe448 : (gT (KF 1 b n) (VF b n)) i = (gD (KF 1 b n) (VF b n)) (gq + 1) := hp430.trans ((show (fun i => gB (gD (KF 1 b n) (VF b n) i) (gP (KF 1 b n) (VF b n) 600)) (gq + 1) = gB ((gD (KF 1 b n) (VF b n)) (gq + 1)) (gP (KF 1 b n) (VF b n) 600) by rfl).trans (gB_no fl447.1))
                clear h438_1 w418 h438_2 w419 h438_3 h438_4 w422
                refine go_retq PM166 (k := 2) (r := some (.inl 0)) (w1 := (SH, dt439)) rfl ?_
                exact ⟨dt439, rfl, hI440, hF442, (Or.inl ⟨rfl, ⟨by exact RSX_f fe448 fl447 (by first | rfl | with_reducible assumption | exact unhid (by with_reducible assumption) | fail) (by first | rfl | with_reducible assumption | exact unhid (by with_reducible assumption) | fail), by first | exact True.intro | with_reducible assumption | exact unhid (by with_reducible assumption) | rfl | omega | trivial, by first | exact True.intro | with_reducible assumption | exact unhid (by with_reducible assumption) | rfl | omega | trivial, by first | exact True.intro | with_reducible assumption | exact unhid (by with_reducible assumption) | rfl | omega | trivial, by first | exact True.intro | with_reducible assumption | exact unhid (by with_reducible assumption) | rfl | omega | trivial⟩⟩)⟩
              · skip
                obtain ⟨h438_0, h438_1, h438_2, h438_3, h438_4, h438_5, h438_6, h438_7, h438_8, h438_9, h438_10⟩ := h438
                have w449 : dt439 79 2 = dt254 79 2 := h438_4.trans w418
                have w450 : dt439 79 9 = dt254 79 9 := h438_5.trans w419
                have w451 : dt439 79 10 = dt254 79 10 := h438_6.trans w420
                have w452 : dt439 79 11 = dt254 79 11 := h438_7.trans w421
                have w453 : dt439 79 12 = dt254 79 12 := h438_8.trans w422
                have w454 : dt439 79 17 = dt254 79 17 := h438_9.trans w423
                have w455 : dt439 79 20 = dt254 79 20 := h438_10.trans w424
                obtain ⟨j456, ej457, hc458⟩ := RSX_1 h438_0 (by decide)
                have hp459 : (gT (KF 1 b n) (VF b n)) i = (gP (KF 1 b n) (VF b n) 600) j456 := hp430.trans ((show (fun i => gB (gD (KF 1 b n) (VF b n) i) (gP (KF 1 b n) (VF b n) 600)) (gq + 1) = gB ((gD (KF 1 b n) (VF b n)) (gq + 1)) (gP (KF 1 b n) (VF b n) 600) by rfl).trans (by rw [ej457]; exact gB_0))
                have hi460 : j456 ≤ t := by have z := gD_M (K := (KF 1 b n)) (V := (VF b n)) (i := (gq + 1)) hz; rw [ej457] at z; have y := z rfl; simp only at y; omega
                have ke461 : KF 1 b n (gq + 1) = 2 := Decidable.byContradiction (fun z_ => by have y_ := congrArg Prod.fst ej457; unfold gD at y_; rw [if_neg z_] at y_; exact absurd (show (1 : Int) = 0 from y_) (by decide))
                have kv462 : dt414 79 16 = VF b n (gq + 1) := (CUR_v hc426 ke461).1
                have kj463 : j456 = (gq + 1) + 1 := by have y_ := congrArg Prod.snd (gD_at (K := KF 1 b n) (V := VF b n) (i := (gq + 1)) (by rw [ej457])); rw [ej457] at y_; exact y_
                have Q464 : RQ (rT (KF 1 b n) (VF b n)) (fun q_ => eD (VF b n) (q_ - 1) ++ rP (KF 1 b n) (VF b n) 600 q_) dt dt439 i j456 := RQ_st hQq (by omega) (RXD_l (by omega) (fun j => hF416 84 (by decide) j) (RXD_sm (by omega) (fun j => hF441 84 (by decide) j))) (by have y_ := congrArg Prod.snd (gD_at (K := (KF 1 b n)) (V := (VF b n)) (i := (gq + 1)) (by rw [ej457])); rw [ej457] at y_; simp only at y_; rw [rP_u hz (by omega), if_neg (by omega), if_pos (by omega), y_]; rfl)
                clear cr431 cb432 cd432 cv433 ck434
                have cr465 := hid (CUR_R hc458 (.inr rfl))
                have cd466 := CUR_d (hc458)
                have cb466 := hid (CUR_b hc458)
                have cv467 := hid (CUR_v hc458)
                have ck468 := hid (KZ_lt (i := j456) hz)
                have c1469 := (hc458).1
                have ci470 := hi460
                clear h438_4 w418 h438_5 w419 h438_6 h438_7 h438_8 w422 h438_9 w423 h438_10 w424
                refine go_toq PM166 (k := 4) (pc' := 75) (L' := [some (.inr (.inr (some 79))), some (.inl 1), some (.inl (dt414 79 16))]) (st' := [.inl (dt414 79 16), .inl 10, .inr (.inr (some 79))]) (w' := (SH, dt439)) rfl ?_
                refine go_callq PM166 PM163 (Q' := _) rfl rfl rfl rfl (sp_X6_lay_g L xs sio (d + 7) dt439 hI440  10 ⟨by decide, by decide⟩ (dt414 79 16) (by first | exact bnd r437 (by decide) (by decide) | exact ⟨by fail, by fail⟩) (by first | exact True.intro | with_reducible assumption | exact unhid (by with_reducible assumption) | rfl | omega | trivial) (by first | exact True.intro | with_reducible assumption | exact unhid (by with_reducible assumption) | rfl | omega | trivial)) ?_
                rintro _ _ ⟨dt472, rfl, hI473, hF474, h471⟩
                refine ⟨rfl, ?_⟩
                have hF475 : Fr [79, 84] dt dt472 := Fr_tr hF442 hF474 (by decide)
                rcases h471 with ⟨rfl, h471⟩
                obtain ⟨h471_0, h471_1, h471_2, h471_3, h471_4, h471_5, h471_6, h471_7, h471_8, h471_9, h471_10, h471_11⟩ := h471
                have w476 : dt472 79 2 = dt254 79 2 := h471_2.trans w449
                have w477 : dt472 79 9 = dt254 79 9 := h471_3.trans w450
                have w478 : dt472 79 10 = dt254 79 10 := h471_4.trans w451
                have w479 : dt472 79 12 = dt254 79 12 := h471_5.trans w453
                have w480 : dt472 79 13 = dt439 79 13 := h471_6
                have w481 : dt472 79 14 = dt439 79 14 := h471_7
                have w482 : dt472 79 15 = dt439 79 15 := h471_8
                have w483 : dt472 79 16 = dt439 79 16 := h471_9
                have w484 : dt472 79 17 = dt254 79 17 := h471_10.trans w454
                have w485 : dt472 79 20 = dt254 79 20 := h471_11.trans w455
                have Q486 : RQ (rT (KF 1 b n) (VF b n)) (rP (KF 1 b n) (VF b n) 600) dt dt472 i j456 := RQ_st Q464 (by omega) h471_1 (by show eD _ (j456 - 1) ++ _ = stx 10 (dt414 79 16) ++ _; unfold eD; rw [show j456 - 1 = (gq + 1) by first | with_reducible assumption | exact unhid (by with_reducible assumption) | omega, show VF b n (gq + 1) = (dt414 79 16) by first | with_reducible assumption | exact unhid (by with_reducible assumption) | omega]; rfl)
                have hc487 : CUR 1 b n dt472 j456 := CUR_sm hc458 (by first | with_reducible assumption | exact unhid (by with_reducible assumption) | rfl | fail) (by first | with_reducible assumption | exact unhid (by with_reducible assumption) | rfl | fail) (by first | with_reducible assumption | exact unhid (by with_reducible assumption) | rfl | fail) (by first | with_reducible assumption | exact unhid (by with_reducible assumption) | rfl | fail)
                clear h471_2 w449 h471_3 w450 h471_4 h471_5 w453 h471_6 h471_7 h471_8 h471_9 h471_10 w454 h471_11 w455
                refine go_toq PM166 (k := 2) (pc' := 9) (L' := [some (.inr (.inr (some 79))), some (.inl 1), some (.inl (dt414 79 16))]) (st' := []) (w' := (SH, dt472)) rfl ?_
                exact GO.le (ih_loop267 dt472 hI473 hF475 (by exact ⟨_, hp459, hc487, hi460, Q486⟩) (by first | with_reducible assumption | exact unhid (by with_reducible assumption) | omega | exact ⟨_, hp459, hc487, hi460, Q486⟩) (by first | with_reducible assumption | exact unhid (by with_reducible assumption) | omega | exact ⟨_, hp459, hc487, hi460, Q486⟩) (by first | with_reducible assumption | exact unhid (by with_reducible assumption) | omega | exact ⟨_, hp459, hc487, hi460, Q486⟩) (by first | with_reducible assumption | exact unhid (by with_reducible assumption) | omega | exact ⟨_, hp459, hc487, hi460, Q486⟩) (by first | with_reducible assumption | exact unhid (by with_reducible assumption) | omega | exact ⟨_, hp459, hc487, hi460, Q486⟩) (by first | with_reducible assumption | exact unhid (by with_reducible assumption) | omega | exact ⟨_, hp459, hc487, hi460, Q486⟩) (by first | with_reducible assumption | exact unhid (by with_reducible assumption) | omega | exact ⟨_, hp459, hc487, hi460, Q486⟩) (by first | with_reducible assumption | exact unhid (by with_reducible assumption) | omega | exact ⟨_, hp459, hc487, hi460, Q486⟩) (by first | with_reducible assumption | exact unhid (by with_reducible assumption) | omega | exact ⟨_, hp459, hc487, hi460, Q486⟩) (by omega)) ⟨.inl rfl, .inr ⟨rfl, trivial⟩, .inr ⟨rfl, trivial⟩, trivial⟩
    exact GO.le (loop267 _ dt5 hI6 hF8 (by exact ⟨_, hp24, hc23, hi25, Q26⟩) (by first | with_reducible assumption | exact unhid (by with_reducible assumption) | fail | exact ⟨_, hp24, hc23, hi25, Q26⟩) (by first | with_reducible assumption | exact unhid (by with_reducible assumption) | fail | exact ⟨_, hp24, hc23, hi25, Q26⟩) (by first | with_reducible assumption | exact unhid (by with_reducible assumption) | fail | exact ⟨_, hp24, hc23, hi25, Q26⟩) (by first | with_reducible assumption | exact unhid (by with_reducible assumption) | fail | exact ⟨_, hp24, hc23, hi25, Q26⟩) (by first | with_reducible assumption | exact unhid (by with_reducible assumption) | fail | exact ⟨_, hp24, hc23, hi25, Q26⟩) (by first | with_reducible assumption | exact unhid (by with_reducible assumption) | fail | exact ⟨_, hp24, hc23, hi25, Q26⟩) (by first | with_reducible assumption | exact unhid (by with_reducible assumption) | fail | exact ⟨_, hp24, hc23, hi25, Q26⟩) (by first | with_reducible assumption | exact unhid (by with_reducible assumption) | fail | exact ⟨_, hp24, hc23, hi25, Q26⟩) (by first | with_reducible assumption | exact unhid (by with_reducible assumption) | fail | exact ⟨_, hp24, hc23, hi25, Q26⟩) (Nat.lt_succ_self _)) ⟨.inl rfl, .inl rfl, .inl rfl, trivial⟩
