set_option maxHeartbeats 1500000 in
set_option maxRecDepth 20000 in
theorem sp_X6_sumUp_g (L : Nat) (xs : Nat → Int32) (sio : Option Nat) (d : Nat) (dt : Nat → Nat → Int) (hI : InvC dt) (b : Nat → Int) (n t i : Nat) (hbb : mB (dt 85) (dt 79 12) = b) (hnn : dt 79 12 = (n : Int)) (hz : KZ (KF 1 b n) t) (ht : t ≤ 500) (hc : CUR 1 b n dt i) (hi : i ≤ t) (hn5 : n ≤ 500)  (h_p0 : dt 79 9 = 1) (h_p1 : dt 79 11 ≤ dt 79 15) : GO (am_XX L xs sio) (d + 9) 165 0 [some (.inr (.inr (some 79))), none] [] (SH, dt) (fun r w2 => ∃ dt2 : Nat → Nat → Int, w2 = (SH, dt2) ∧ InvC dt2 ∧ Fr [79, 84] dt dt2 ∧ ((r = some (.inl 0) ∧ (RSX 1 b n i dt2 0 ((gE (KF 1 b n) (VF b n)) i)) ∧ (dt2 79 2 = dt 79 2) ∧ (dt2 79 9 = dt 79 9) ∧ (dt2 79 10 = dt 79 10) ∧ (dt2 79 12 = dt 79 12)) ∨ (r = some (.inl 1) ∧ (RSX 1 b n i dt2 1 ((gE (KF 1 b n) (VF b n)) i)) ∧ (dt 79 15 + dt2 79 11 ≤ dt2 79 15 + dt 79 11) ∧ (dt 79 11 + 1 ≤ dt2 79 11) ∧ (dt2 79 15 ≤ 500) ∧ (dt2 79 2 = dt 79 2) ∧ (dt2 79 9 = dt 79 9) ∧ (dt2 79 10 = dt 79 10) ∧ (dt2 79 12 = dt 79 12) ∧ (dt2 79 17 = dt 79 17) ∧ (dt2 79 20 = dt 79 20)))) := by
  have hF : Fr [79, 84] dt dt := Fr_refl
  have r1 : 0 ≤ dt 79 15 ∧ dt 79 15 ≤ 500 := InvC_get hI 79 15 rfl rfl
  have r2 : 0 ≤ dt 79 11 ∧ dt 79 11 ≤ 510 := InvC_get hI 79 11 rfl rfl
  have r3 : 0 ≤ dt 79 10 ∧ dt 79 10 ≤ 24 := InvC_get hI 79 10 rfl rfl
  have cr0 := hid (CUR_R hc (.inr rfl))
  have cd0 := CUR_d (hc)
  have cb0 := hid (CUR_b hc)
  have cv0 := hid (CUR_v hc)
  have ck0 := hid (KZ_lt (i := i) hz)
  have c10 := hc.1
  refine go_toq PM165 (k := 1) (pc' := 1) (L' := [some (.inr (.inr (some 79))), none]) (st' := [.inr (.inr (some 79))]) (w' := (SH, dt)) rfl ?_
  have u1_ := hid (And.intro (unhid cr0) (And.intro (unhid cb0) (And.intro (unhid cv0) (unhid ck0))))
  refine go_callq PM165 PM166 (Q' := _) rfl rfl rfl rfl (sp_X6_product_g L xs sio (d + 0) dt hI b n t i (by first | exact hbb | (rw [show dt 85 = dt 85 from funext (hF 85 (by decide)), show dt 79 12 = dt 79 12 by first | with_reducible assumption | exact unhid (by with_reducible assumption) | (first | omega | (have z_ := unhid u1_; omega))]; exact hbb)) (by first | with_reducible assumption | exact unhid (by with_reducible assumption) | exact Eq.trans (by with_reducible assumption) hnn | (first | omega | (have z_ := unhid u1_; omega))) hz ht hc hi hn5  (by first | exact True.intro | with_reducible assumption | exact unhid (by with_reducible assumption) | rfl | (first | omega | (have z_ := unhid u1_; omega)) | trivial) (by first | exact True.intro | with_reducible assumption | exact unhid (by with_reducible assumption) | rfl | (first | omega | (have z_ := unhid u1_; omega)) | trivial)) ?_
  rintro _ _ ⟨dt5, rfl, hI6, hF7, h4⟩
  refine ⟨rfl, ?_⟩
  have hF8 : Fr [79, 84] dt dt5 := Fr_tr hF hF7 (by decide)
  rcases h4 with ⟨rfl, h4⟩ | ⟨rfl, h4⟩
  · skip
    obtain ⟨h4_0, h4_1, h4_2, h4_3, h4_4⟩ := h4
    have w9 : dt5 79 2 = dt 79 2 := h4_1
    have w10 : dt5 79 9 = dt 79 9 := h4_2
    have w11 : dt5 79 10 = dt 79 10 := h4_3
    have w12 : dt5 79 12 = dt 79 12 := h4_4
    have fl13 := RSX_0 h4_0 rfl
    have fe14 : (gE (KF 1 b n) (VF b n)) i = (gT (KF 1 b n) (VF b n)) i := (rfl : (gE (KF 1 b n) (VF b n)) i = (gE (KF 1 b n) (VF b n)) i).trans ((show (gE (KF 1 b n) (VF b n)) i = gB ((gT (KF 1 b n) (VF b n)) i) (gQ (KF 1 b n) (VF b n) 600) by exact gE_PQ hz (by (first | omega | (have z_ := unhid u1_; omega)))).trans (gB_no fl13.1))
    clear h4_1 h4_2 h4_3 h4_4
    refine go_retq PM165 (k := 2) (r := some (.inl 0)) (w1 := (SH, dt5)) rfl ?_
    exact ⟨dt5, rfl, hI6, hF8, (Or.inl ⟨rfl, ⟨by exact RSX_f fe14 fl13 (by first | rfl | with_reducible assumption | exact unhid (by with_reducible assumption) | (first | omega | (have z_ := unhid u1_; omega))) (by first | rfl | with_reducible assumption | exact unhid (by with_reducible assumption) | (first | omega | (have z_ := unhid u1_; omega))), by first | exact True.intro | with_reducible assumption | exact unhid (by with_reducible assumption) | rfl | (first | omega | (have z_ := unhid u1_; omega)) | trivial, by first | exact True.intro | with_reducible assumption | exact unhid (by with_reducible assumption) | rfl | (first | omega | (have z_ := unhid u1_; omega)) | trivial, by first | exact True.intro | with_reducible assumption | exact unhid (by with_reducible assumption) | rfl | (first | omega | (have z_ := unhid u1_; omega)) | trivial, by first | exact True.intro | with_reducible assumption | exact unhid (by with_reducible assumption) | rfl | (first | omega | (have z_ := unhid u1_; omega)) | trivial⟩⟩)⟩
  · skip
    obtain ⟨h4_0, h4_1, h4_2, h4_3, h4_4, h4_5, h4_6, h4_7, h4_8, h4_9⟩ := h4
    have w15 : dt5 79 2 = dt 79 2 := h4_4
    have w16 : dt5 79 9 = dt 79 9 := h4_5
    have w17 : dt5 79 10 = dt 79 10 := h4_6
    have w18 : dt5 79 12 = dt 79 12 := h4_7
    have w19 : dt5 79 17 = dt 79 17 := h4_8
    have w20 : dt5 79 20 = dt 79 20 := h4_9
    obtain ⟨j21, ej22, hc23⟩ := RSX_1 h4_0 (by decide)
    have hp24 : (gE (KF 1 b n) (VF b n)) i = (gQ (KF 1 b n) (VF b n) 600) j21 := (rfl : (gE (KF 1 b n) (VF b n)) i = (gE (KF 1 b n) (VF b n)) i).trans ((show (gE (KF 1 b n) (VF b n)) i = gB ((gT (KF 1 b n) (VF b n)) i) (gQ (KF 1 b n) (VF b n) 600) by exact gE_PQ hz (by (have z_ := unhid u1_; omega))).trans (by rw [ej22]; exact gB_0))
    have hi25 : j21 ≤ t := by have z := gT_M' (K := (KF 1 b n)) (V := (VF b n)) (i := i) hz; rw [ej22] at z; have y := z rfl; simp only at y; (first | omega | (have z_ := unhid u1_; omega))
    clear cr0 cb0 cd0 cv0 ck0
    have cr26 := hid (CUR_R hc23 (.inr rfl))
    have cd27 := CUR_d (hc23)
    have cb27 := hid (CUR_b hc23)
    have cv28 := hid (CUR_v hc23)
    have ck29 := hid (KZ_lt (i := j21) hz)
    have c130 := (hc23).1
    have ci31 := hi25
    clear h4_4 h4_5 h4_6 h4_7 h4_8 h4_9
    refine go_toq PM165 (k := 1) (pc' := 9) (L' := [some (.inr (.inr (some 79))), none]) (st' := []) (w' := (SH, dt5)) rfl ?_
    have loop252 : ∀ (k_ : Nat) (dt239 : Nat → Nat → Int) (hI240 : InvC dt239) (hF241 : Fr [79, 84] dt dt239) (i242 : ∃ q : Nat, (gE (KF 1 b n) (VF b n)) i = (gQ (KF 1 b n) (VF b n) 600) q ∧ CUR 1 b n dt239 q ∧ q ≤ t) (i243 : dt 79 15 + dt239 79 11 ≤ dt239 79 15 + dt 79 11) (i244 : dt 79 11 + 1 ≤ dt239 79 11) (i245 : dt239 79 15 ≤ 500) (i246 : dt239 79 2 = dt 79 2) (i247 : dt239 79 9 = dt 79 9) (i248 : dt239 79 10 = dt 79 10) (i249 : dt239 79 12 = dt 79 12) (i250 : dt239 79 17 = dt 79 17) (i251 : dt239 79 20 = dt 79 20), (502 - dt239 79 15).toNat < k_ → GO (am_XX L xs sio) (d + 9) 165 9 [some (.inr (.inr (some 79))), none] [] (SH, dt239) (fun r w2 => ∃ dt2 : Nat → Nat → Int, w2 = (SH, dt2) ∧ InvC dt2 ∧ Fr [79, 84] dt dt2 ∧ ((r = some (.inl 0) ∧ (RSX 1 b n i dt2 0 ((gE (KF 1 b n) (VF b n)) i)) ∧ (dt2 79 2 = dt 79 2) ∧ (dt2 79 9 = dt 79 9) ∧ (dt2 79 10 = dt 79 10) ∧ (dt2 79 12 = dt 79 12)) ∨ (r = some (.inl 1) ∧ (RSX 1 b n i dt2 1 ((gE (KF 1 b n) (VF b n)) i)) ∧ (dt 79 15 + dt2 79 11 ≤ dt2 79 15 + dt 79 11) ∧ (dt 79 11 + 1 ≤ dt2 79 11) ∧ (dt2 79 15 ≤ 500) ∧ (dt2 79 2 = dt 79 2) ∧ (dt2 79 9 = dt 79 9) ∧ (dt2 79 10 = dt 79 10) ∧ (dt2 79 12 = dt 79 12) ∧ (dt2 79 17 = dt 79 17) ∧ (dt2 79 20 = dt 79 20)))) := by
      intro k_
      induction k_ with
      | zero => intro dt239 hI240 hF241 i242 i243 i244 i245 i246 i247 i248 i249 i250 i251 hm; exact absurd hm (Nat.not_lt_zero _)
      | succ k_ ih_loop252 =>
        intro dt239 hI240 hF241 i242 i243 i244 i245 i246 i247 i248 i249 i250 i251 hm
        clear cr26 cb27 cd27 cv28 ck29
        obtain ⟨gq, hpq, hcq, hiq⟩ := i242
        have crq := CUR_R hcq (.inr rfl)
        have cbq := CUR_b hcq
        have cvq := CUR_v hcq
        have ckq := KZ_lt (i := gq) hz
        have c1q := hcq.1
        have r253 : (-2147483648) ≤ dt239 79 14 ∧ dt239 79 14 ≤ 2147483647 := InvC_get hI240 79 14 rfl rfl
        refine go_ifq PM165 (k := 3) (p1 := 29) (p2 := 19) (L' := [some (.inr (.inr (some 79))), none]) (st' := []) (w' := (SH, dt239)) rfl (c_eq (a := dt239 79 14) (b := 143) (by first | exact bnd r253 (by decide) (by decide) | exact ⟨by omega, by omega⟩) ⟨by decide, by decide⟩) (fun c254 => ?_) (fun c254 => ?_)
        · skip
          refine go_ifq PM165 (k := 3) (p1 := 44) (p2 := 39) (L' := [some (.inr (.inr (some 79))), none]) (st' := []) (w' := (SH, dt239)) rfl (c_ne (a := dt239 79 14) (b := 143) (by first | exact bnd r253 (by decide) (by decide) | exact ⟨by omega, by omega⟩) ⟨by decide, by decide⟩) (fun c255 => ?_) (fun c255 => ?_)
          · skip
            replace c255 := hid c255
            refine go_toq PM165 (k := 3) (pc' := 48) (L' := [some (.inr (.inr (some 79))), some (.inl 8)]) (st' := [.inr (.inr (some 79))]) (w' := (SH, dt239)) rfl ?_
            refine go_callq PM165 PM159 (Q' := _) rfl rfl rfl rfl (sp_X6_next0_p1 L xs sio (d + 2) dt239 hI240   (by first | exact True.intro | with_reducible assumption | exact unhid (by with_reducible assumption) | rfl | (first | omega | (have z0_ := unhid c255; omega)) | trivial) (by first | exact True.intro | with_reducible assumption | exact unhid (by with_reducible assumption) | rfl | (first | omega | (have z0_ := unhid c255; omega)) | trivial)) ?_
            rintro _ _ ⟨dt257, rfl, hI258, hF259, h256⟩
            refine ⟨rfl, ?_⟩
            have hF260 : Fr [79, 84] dt dt257 := Fr_tr hF241 hF259 (by decide)
            rcases h256 with ⟨rfl, h256⟩
            obtain ⟨h256_0, h256_1, h256_2, h256_3, h256_4, h256_5, h256_6, h256_7, h256_8⟩ := h256
            have w261 : dt257 79 2 = dt239 79 2 := h256_2
            have w262 : dt257 79 9 = dt239 79 9 := h256_3
            have w263 : dt257 79 10 = dt239 79 10 := h256_4
            have w264 : dt257 79 11 = dt239 79 11 := h256_5
            have w265 : dt257 79 12 = dt239 79 12 := h256_6
            have w266 : dt257 79 17 = dt239 79 17 := h256_7
            have w267 : dt257 79 20 = dt239 79 20 := h256_8
            have hq268 := h256_0
            rw [show dt239 85 = dt 85 from funext (hF241 85 (by decide)), show dt239 79 12 = dt 79 12 by first | with_reducible assumption | exact unhid (by with_reducible assumption) | (first | omega | (have z0_ := unhid c255; omega)), hbb, show (dt 79 12).toNat = n from (congrArg Int.toNat hnn).trans (Int.toNat_natCast n)] at hq268
            have hc269 : CUR 1 b n dt257 (gq + 1) := CUR_n hcq hq268
            have hi270 : gq + 1 ≤ t := by (have z0_ := unhid c255; omega)
            have av271 : dt239 79 15 + 1 ≤ dt239 79 13 := by (have z0_ := unhid c255; omega)
            have hp272 : (gE (KF 1 b n) (VF b n)) i = (fun i => gB (gT (KF 1 b n) (VF b n) i) (gQ (KF 1 b n) (VF b n) 600)) (gq + 1) := hpq.trans (by show gQ _ _ 600 gq = _; rw [gQ_u hz (by (have z0_ := unhid c255; omega)) (by (have z0_ := unhid c255; omega))]; first | (rw [if_pos (by (have z0_ := unhid c255; omega))]; done) | (rw [if_pos (by (have z0_ := unhid c255; omega))]; rfl))
            clear crq cbq cvq ckq
            have cr273 := hid (CUR_R hc269 (.inr rfl))
            have cd274 := CUR_d (hc269)
            have cb274 := hid (CUR_b hc269)
            have cv275 := hid (CUR_v hc269)
            have ck276 := hid (KZ_lt (i := (gq + 1)) hz)
            have c1277 := (hc269).1
            have ci278 := hi270
            clear h256_2 h256_3 h256_4 h256_5 h256_6 h256_7 h256_8
            refine go_toq PM165 (k := 1) (pc' := 52) (L' := [some (.inr (.inr (some 79))), some (.inl 8)]) (st' := [.inr (.inr (some 79))]) (w' := (SH, dt257)) rfl ?_
            have u2_ := hid (And.intro (unhid c255) (And.intro (unhid cr273) (And.intro (unhid cb274) (And.intro (unhid cv275) (unhid ck276)))))
            refine go_callq PM165 PM166 (Q' := _) rfl rfl rfl rfl (sp_X6_product_g L xs sio (d + 0) dt257 hI258 b n t (gq + 1) (by first | exact hbb | (rw [show dt257 85 = dt 85 from funext (hF260 85 (by decide)), show dt257 79 12 = dt 79 12 by first | with_reducible assumption | exact unhid (by with_reducible assumption) | (first | omega | (have z_ := unhid u2_; omega))]; exact hbb)) (by first | with_reducible assumption | exact unhid (by with_reducible assumption) | exact Eq.trans (by with_reducible assumption) hnn | (first | omega | (have z_ := unhid u2_; omega))) hz ht hc269 hi270 hn5  (by first | exact True.intro | with_reducible assumption | exact unhid (by with_reducible assumption) | rfl | (first | omega | (have z_ := unhid u2_; omega)) | trivial) (by first | exact True.intro | with_reducible assumption | exact unhid (by with_reducible assumption) | rfl | (first | omega | (have z_ := unhid u2_; omega)) | trivial)) ?_
            rintro _ _ ⟨dt280, rfl, hI281, hF282, h279⟩
            refine ⟨rfl, ?_⟩
            have hF283 : Fr [79, 84] dt dt280 := Fr_tr hF260 hF282 (by decide)
            rcases h279 with ⟨rfl, h279⟩ | ⟨rfl, h279⟩
            · skip
              obtain ⟨h279_0, h279_1, h279_2, h279_3, h279_4⟩ := h279
              have w284 : dt280 79 2 = dt239 79 2 := h279_1.trans w261
              have w285 : dt280 79 9 = dt239 79 9 := h279_2.trans w262
              have w286 : dt280 79 10 = dt239 79 10 := h279_3.trans w263
              have w287 : dt280 79 12 = dt239 79 12 := h279_4.trans w265
              have fl288 := RSX_0 h279_0 rfl
              have fe289 : (gE (KF 1 b n) (VF b n)) i = (gT (KF 1 b n) (VF b n)) (gq + 1) := hp272.trans ((show (fun i => gB (gT (KF 1 b n) (VF b n) i) (gQ (KF 1 b n) (VF b n) 600)) (gq + 1) = gB ((gT (KF 1 b n) (VF b n)) (gq + 1)) (gQ (KF 1 b n) (VF b n) 600) by rfl).trans (gB_no fl288.1))
              clear h279_1 w261 h279_2 w262 h279_3 h279_4 w265
              refine go_retq PM165 (k := 2) (r := some (.inl 0)) (w1 := (SH, dt280)) rfl ?_
              exact ⟨dt280, rfl, hI281, hF283, (Or.inl ⟨rfl, ⟨by exact RSX_f fe289 fl288 (by first | rfl | with_reducible assumption | exact unhid (by with_reducible assumption) | (first | omega | (have z_ := unhid u2_; omega))) (by first | rfl | with_reducible assumption | exact unhid (by with_reducible assumption) | (first | omega | (have z_ := unhid u2_; omega))), by first | exact True.intro | with_reducible assumption | exact unhid (by with_reducible assumption) | rfl | (first | omega | (have z_ := unhid u2_; omega)) | trivial, by first | exact True.intro | with_reducible assumption | exact unhid (by with_reducible assumption) | rfl | (first | omega | (have z_ := unhid u2_; omega)) | trivial, by first | exact True.intro | with_reducible assumption | exact unhid (by with_reducible assumption) | rfl | (first | omega | (have z_ := unhid u2_; omega)) | trivial, by first | exact True.intro | with_reducible assumption | exact unhid (by with_reducible assumption) | rfl | (first | omega | (have z_ := unhid u2_; omega)) | trivial⟩⟩)⟩
            · skip
              obtain ⟨h279_0, h279_1, h279_2, h279_3, h279_4, h279_5, h279_6, h279_7, h279_8, h279_9⟩ := h279
              have w290 : dt280 79 2 = dt239 79 2 := h279_4.trans w261
              have w291 : dt280 79 9 = dt239 79 9 := h279_5.trans w262
              have w292 : dt280 79 10 = dt239 79 10 := h279_6.trans w263
              have w293 : dt280 79 12 = dt239 79 12 := h279_7.trans w265
              have w294 : dt280 79 17 = dt239 79 17 := h279_8.trans w266
              have w295 : dt280 79 20 = dt239 79 20 := h279_9.trans w267
              obtain ⟨j296, ej297, hc298⟩ := RSX_1 h279_0 (by decide)
              have hp299 : (gE (KF 1 b n) (VF b n)) i = (gQ (KF 1 b n) (VF b n) 600) j296 := hp272.trans ((show (fun i => gB (gT (KF 1 b n) (VF b n) i) (gQ (KF 1 b n) (VF b n) 600)) (gq + 1) = gB ((gT (KF 1 b n) (VF b n)) (gq + 1)) (gQ (KF 1 b n) (VF b n) 600) by rfl).trans (by rw [ej297]; exact gB_0))
              have hi300 : j296 ≤ t := by have z := gT_M' (K := (KF 1 b n)) (V := (VF b n)) (i := (gq + 1)) hz; rw [ej297] at z; have y := z rfl; simp only at y; (first | omega | (have z_ := unhid u2_; omega))
              clear cr273 cb274 cd274 cv275 ck276
              have cr301 := hid (CUR_R hc298 (.inr rfl))
              have cd302 := CUR_d (hc298)
              have cb302 := hid (CUR_b hc298)
              have cv303 := hid (CUR_v hc298)
              have ck304 := hid (KZ_lt (i := j296) hz)
              have c1305 := (hc298).1
              have ci306 := hi300
              clear h279_4 w261 h279_5 w262 h279_6 h279_7 w265 h279_8 w266 h279_9 w267
              refine go_toq PM165 (k := 4) (pc' := 63) (L' := [some (.inr (.inr (some 79))), some (.inl 8)]) (st' := [.inl 0, .inl 8, .inr (.inr (some 79))]) (w' := (SH, dt280)) rfl ?_
              have u3_ := hid (And.intro (unhid c255) (And.intro (unhid cr301) (And.intro (unhid cb302) (And.intro (unhid cv303) (unhid ck304)))))
              refine go_callq PM165 PM163 (Q' := _) rfl rfl rfl rfl (sp_X6_lay_g L xs sio (d + 8) dt280 hI281  8 ⟨by decide, by decide⟩ 0 ⟨by decide, by decide⟩ (by first | exact True.intro | with_reducible assumption | exact unhid (by with_reducible assumption) | rfl | (first | omega | (have z_ := unhid u3_; omega)) | trivial)) ?_
              rintro _ _ ⟨dt308, rfl, hI309, hF310, h307⟩
              refine ⟨rfl, ?_⟩
              have hF311 : Fr [79, 84] dt dt308 := Fr_tr hF283 hF310 (by decide)
              rcases h307 with ⟨rfl, h307⟩
              obtain ⟨h307_0, h307_1, h307_2, h307_3, h307_4, h307_5, h307_6, h307_7, h307_8, h307_9, h307_10⟩ := h307
              have w312 : dt308 79 2 = dt239 79 2 := h307_1.trans w290
              have w313 : dt308 79 9 = dt239 79 9 := h307_2.trans w291
              have w314 : dt308 79 10 = dt239 79 10 := h307_3.trans w292
              have w315 : dt308 79 12 = dt239 79 12 := h307_4.trans w293
              have w316 : dt308 79 13 = dt280 79 13 := h307_5
              have w317 : dt308 79 14 = dt280 79 14 := h307_6
              have w318 : dt308 79 15 = dt280 79 15 := h307_7
              have w319 : dt308 79 16 = dt280 79 16 := h307_8
              have w320 : dt308 79 17 = dt239 79 17 := h307_9.trans w294
              have w321 : dt308 79 20 = dt239 79 20 := h307_10.trans w295
              have hc322 : CUR 1 b n dt308 j296 := CUR_sm hc298 (by first | with_reducible assumption | exact unhid (by with_reducible assumption) | rfl | (first | omega | (have z_ := unhid u3_; omega))) (by first | with_reducible assumption | exact unhid (by with_reducible assumption) | rfl | (first | omega | (have z_ := unhid u3_; omega))) (by first | with_reducible assumption | exact unhid (by with_reducible assumption) | rfl | (first | omega | (have z_ := unhid u3_; omega))) (by first | with_reducible assumption | exact unhid (by with_reducible assumption) | rfl | (first | omega | (have z_ := unhid u3_; omega)))
              clear h307_1 w290 h307_2 w291 h307_3 h307_4 w293 h307_5 h307_6 h307_7 h307_8 h307_9 w294 h307_10 w295
              refine go_toq PM165 (k := 1) (pc' := 9) (L' := [some (.inr (.inr (some 79))), some (.inl 8)]) (st' := []) (w' := (SH, dt308)) rfl ?_
              exact GO.le (ih_loop252 dt308 hI309 hF311 (by exact ⟨_, hp299, hc322, hi300⟩) (by first | with_reducible assumption | exact unhid (by with_reducible assumption) | (first | omega | (have z_ := unhid u3_; omega)) | exact ⟨_, hp299, hc322, hi300⟩) (by first | with_reducible assumption | exact unhid (by with_reducible assumption) | (first | omega | (have z_ := unhid u3_; omega)) | exact ⟨_, hp299, hc322, hi300⟩) (by first | with_reducible assumption | exact unhid (by with_reducible assumption) | (first | omega | (have z_ := unhid u3_; omega)) | exact ⟨_, hp299, hc322, hi300⟩) (by first | with_reducible assumption | exact unhid (by with_reducible assumption) | (first | omega | (have z_ := unhid u3_; omega)) | exact ⟨_, hp299, hc322, hi300⟩) (by first | with_reducible assumption | exact unhid (by with_reducible assumption) | (first | omega | (have z_ := unhid u3_; omega)) | exact ⟨_, hp299, hc322, hi300⟩) (by first | with_reducible assumption | exact unhid (by with_reducible assumption) | (first | omega | (have z_ := unhid u3_; omega)) | exact ⟨_, hp299, hc322, hi300⟩) (by first | with_reducible assumption | exact unhid (by with_reducible assumption) | (first | omega | (have z_ := unhid u3_; omega)) | exact ⟨_, hp299, hc322, hi300⟩) (by first | with_reducible assumption | exact unhid (by with_reducible assumption) | (first | omega | (have z_ := unhid u3_; omega)) | exact ⟨_, hp299, hc322, hi300⟩) (by first | with_reducible assumption | exact unhid (by with_reducible assumption) | (first | omega | (have z_ := unhid u3_; omega)) | exact ⟨_, hp299, hc322, hi300⟩) (by (first | omega | (have z_ := unhid u3_; omega)))) ⟨.inl rfl, .inr ⟨rfl, trivial⟩, trivial⟩
          · skip
            refine go_toq PM165 (k := 4) (pc' := 48) (L' := [some (.inr (.inr (some 79))), some (.inl 7)]) (st' := [.inr (.inr (some 79))]) (w' := (SH, dt239)) rfl ?_
            refine go_callq PM165 PM159 (Q' := _) rfl rfl rfl rfl (sp_X6_next0_p1 L xs sio (d + 2) dt239 hI240   (by first | exact True.intro | with_reducible assumption | rfl | omega | trivial) (by first | exact True.intro | with_reducible assumption | rfl | omega | trivial)) ?_
            rintro _ _ ⟨dt324, rfl, hI325, hF326, h323⟩
            refine ⟨rfl, ?_⟩
            have hF327 : Fr [79, 84] dt dt324 := Fr_tr hF241 hF326 (by decide)
            rcases h323 with ⟨rfl, h323⟩
            obtain ⟨h323_0, h323_1, h323_2, h323_3, h323_4, h323_5, h323_6, h323_7, h323_8⟩ := h323
            have w328 : dt324 79 2 = dt239 79 2 := h323_2
            have w329 : dt324 79 9 = dt239 79 9 := h323_3
            have w330 : dt324 79 10 = dt239 79 10 := h323_4
            have w331 : dt324 79 11 = dt239 79 11 := h323_5
            have w332 : dt324 79 12 = dt239 79 12 := h323_6
            have w333 : dt324 79 17 = dt239 79 17 := h323_7
            have w334 : dt324 79 20 = dt239 79 20 := h323_8
            have hq335 := h323_0
            rw [show dt239 85 = dt 85 from funext (hF241 85 (by decide)), show dt239 79 12 = dt 79 12 by first | with_reducible assumption | omega, hbb, show (dt 79 12).toNat = n from (congrArg Int.toNat hnn).trans (Int.toNat_natCast n)] at hq335
            have hc336 : CUR 1 b n dt324 (gq + 1) := CUR_n hcq hq335
            have hi337 : gq + 1 ≤ t := by omega
            have av338 : dt239 79 15 + 1 ≤ dt239 79 13 := by omega
            have hp339 : (gE (KF 1 b n) (VF b n)) i = (fun i => gB (gT (KF 1 b n) (VF b n) i) (gQ (KF 1 b n) (VF b n) 600)) (gq + 1) := hpq.trans (by show gQ _ _ 600 gq = _; rw [gQ_u hz (by omega) (by omega)]; first | (rw [if_pos (by omega)]; done) | (rw [if_pos (by omega)]; rfl))
            clear crq cbq cvq ckq
            have cr340 := hid (CUR_R hc336 (.inr rfl))
            have cd341 := CUR_d (hc336)
            have cb341 := hid (CUR_b hc336)
            have cv342 := hid (CUR_v hc336)
            have ck343 := hid (KZ_lt (i := (gq + 1)) hz)
            have c1344 := (hc336).1
            have ci345 := hi337
            clear h323_2 h323_3 h323_4 h323_5 h323_6 h323_7 h323_8
            refine go_toq PM165 (k := 1) (pc' := 52) (L' := [some (.inr (.inr (some 79))), some (.inl 7)]) (st' := [.inr (.inr (some 79))]) (w' := (SH, dt324)) rfl ?_
            have u4_ := hid (And.intro (unhid cr340) (And.intro (unhid cb341) (And.intro (unhid cv342) (unhid ck343))))
            refine go_callq PM165 PM166 (Q' := _) rfl rfl rfl rfl (sp_X6_product_g L xs sio (d + 0) dt324 hI325 b n t (gq + 1) (by first | exact hbb | (rw [show dt324 85 = dt 85 from funext (hF327 85 (by decide)), show dt324 79 12 = dt 79 12 by first | with_reducible assumption | exact unhid (by with_reducible assumption) | (first | omega | (have z_ := unhid u4_; omega))]; exact hbb)) (by first | with_reducible assumption | exact unhid (by with_reducible assumption) | exact Eq.trans (by with_reducible assumption) hnn | (first | omega | (have z_ := unhid u4_; omega))) hz ht hc336 hi337 hn5  (by first | exact True.intro | with_reducible assumption | exact unhid (by with_reducible assumption) | rfl | (first | omega | (have z_ := unhid u4_; omega)) | trivial) (by first | exact True.intro | with_reducible assumption | exact unhid (by with_reducible assumption) | rfl | (first | omega | (have z_ := unhid u4_; omega)) | trivial)) ?_
            rintro _ _ ⟨dt347, rfl, hI348, hF349, h346⟩
            refine ⟨rfl, ?_⟩
            have hF350 : Fr [79, 84] dt dt347 := Fr_tr hF327 hF349 (by decide)
            rcases h346 with ⟨rfl, h346⟩ | ⟨rfl, h346⟩
            · skip
              obtain ⟨h346_0, h346_1, h346_2, h346_3, h346_4⟩ := h346
              have w351 : dt347 79 2 = dt239 79 2 := h346_1.trans w328
              have w352 : dt347 79 9 = dt239 79 9 := h346_2.trans w329
              have w353 : dt347 79 10 = dt239 79 10 := h346_3.trans w330
              have w354 : dt347 79 12 = dt239 79 12 := h346_4.trans w332
              have fl355 := RSX_0 h346_0 rfl
              have fe356 : (gE (KF 1 b n) (VF b n)) i = (gT (KF 1 b n) (VF b n)) (gq + 1) := hp339.trans ((show (fun i => gB (gT (KF 1 b n) (VF b n) i) (gQ (KF 1 b n) (VF b n) 600)) (gq + 1) = gB ((gT (KF 1 b n) (VF b n)) (gq + 1)) (gQ (KF 1 b n) (VF b n) 600) by rfl).trans (gB_no fl355.1))
              clear h346_1 w328 h346_2 w329 h346_3 h346_4 w332
              refine go_retq PM165 (k := 2) (r := some (.inl 0)) (w1 := (SH, dt347)) rfl ?_
              exact ⟨dt347, rfl, hI348, hF350, (Or.inl ⟨rfl, ⟨by exact RSX_f fe356 fl355 (by first | rfl | with_reducible assumption | exact unhid (by with_reducible assumption) | (first | omega | (have z_ := unhid u4_; omega))) (by first | rfl | with_reducible assumption | exact unhid (by with_reducible assumption) | (first | omega | (have z_ := unhid u4_; omega))), by first | exact True.intro | with_reducible assumption | exact unhid (by with_reducible assumption) | rfl | (first | omega | (have z_ := unhid u4_; omega)) | trivial, by first | exact True.intro | with_reducible assumption | exact unhid (by with_reducible assumption) | rfl | (first | omega | (have z_ := unhid u4_; omega)) | trivial, by first | exact True.intro | with_reducible assumption | exact unhid (by with_reducible assumption) | rfl | (first | omega | (have z_ := unhid u4_; omega)) | trivial, by first | exact True.intro | with_reducible assumption | exact unhid (by with_reducible assumption) | rfl | (first | omega | (have z_ := unhid u4_; omega)) | trivial⟩⟩)⟩
            · skip
              obtain ⟨h346_0, h346_1, h346_2, h346_3, h346_4, h346_5, h346_6, h346_7, h346_8, h346_9⟩ := h346
              have w357 : dt347 79 2 = dt239 79 2 := h346_4.trans w328
              have w358 : dt347 79 9 = dt239 79 9 := h346_5.trans w329
              have w359 : dt347 79 10 = dt239 79 10 := h346_6.trans w330
              have w360 : dt347 79 12 = dt239 79 12 := h346_7.trans w332
              have w361 : dt347 79 17 = dt239 79 17 := h346_8.trans w333
              have w362 : dt347 79 20 = dt239 79 20 := h346_9.trans w334
              obtain ⟨j363, ej364, hc365⟩ := RSX_1 h346_0 (by decide)
              have hp366 : (gE (KF 1 b n) (VF b n)) i = (gQ (KF 1 b n) (VF b n) 600) j363 := hp339.trans ((show (fun i => gB (gT (KF 1 b n) (VF b n) i) (gQ (KF 1 b n) (VF b n) 600)) (gq + 1) = gB ((gT (KF 1 b n) (VF b n)) (gq + 1)) (gQ (KF 1 b n) (VF b n) 600) by rfl).trans (by rw [ej364]; exact gB_0))
              have hi367 : j363 ≤ t := by have z := gT_M' (K := (KF 1 b n)) (V := (VF b n)) (i := (gq + 1)) hz; rw [ej364] at z; have y := z rfl; simp only at y; (first | omega | (have z_ := unhid u4_; omega))
              clear cr340 cb341 cd341 cv342 ck343
              have cr368 := hid (CUR_R hc365 (.inr rfl))
              have cd369 := CUR_d (hc365)
              have cb369 := hid (CUR_b hc365)
              have cv370 := hid (CUR_v hc365)
              have ck371 := hid (KZ_lt (i := j363) hz)
              have c1372 := (hc365).1
              have ci373 := hi367
              clear h346_4 w328 h346_5 w329 h346_6 h346_7 w332 h346_8 w333 h346_9 w334
              refine go_toq PM165 (k := 4) (pc' := 63) (L' := [some (.inr (.inr (some 79))), some (.inl 7)]) (st' := [.inl 0, .inl 7, .inr (.inr (some 79))]) (w' := (SH, dt347)) rfl ?_
              have u5_ := hid (And.intro (unhid cr368) (And.intro (unhid cb369) (And.intro (unhid cv370) (unhid ck371))))
              refine go_callq PM165 PM163 (Q' := _) rfl rfl rfl rfl (sp_X6_lay_g L xs sio (d + 8) dt347 hI348  7 ⟨by decide, by decide⟩ 0 ⟨by decide, by decide⟩ (by first | exact True.intro | with_reducible assumption | exact unhid (by with_reducible assumption) | rfl | (first | omega | (have z_ := unhid u5_; omega)) | trivial)) ?_
              rintro _ _ ⟨dt375, rfl, hI376, hF377, h374⟩
              refine ⟨rfl, ?_⟩
              have hF378 : Fr [79, 84] dt dt375 := Fr_tr hF350 hF377 (by decide)
              rcases h374 with ⟨rfl, h374⟩
              obtain ⟨h374_0, h374_1, h374_2, h374_3, h374_4, h374_5, h374_6, h374_7, h374_8, h374_9, h374_10⟩ := h374
              have w379 : dt375 79 2 = dt239 79 2 := h374_1.trans w357
              have w380 : dt375 79 9 = dt239 79 9 := h374_2.trans w358
              have w381 : dt375 79 10 = dt239 79 10 := h374_3.trans w359
              have w382 : dt375 79 12 = dt239 79 12 := h374_4.trans w360
              have w383 : dt375 79 13 = dt347 79 13 := h374_5
              have w384 : dt375 79 14 = dt347 79 14 := h374_6
              have w385 : dt375 79 15 = dt347 79 15 := h374_7
              have w386 : dt375 79 16 = dt347 79 16 := h374_8
              have w387 : dt375 79 17 = dt239 79 17 := h374_9.trans w361
              have w388 : dt375 79 20 = dt239 79 20 := h374_10.trans w362
              have hc389 : CUR 1 b n dt375 j363 := CUR_sm hc365 (by first | with_reducible assumption | exact unhid (by with_reducible assumption) | rfl | (first | omega | (have z_ := unhid u5_; omega))) (by first | with_reducible assumption | exact unhid (by with_reducible assumption) | rfl | (first | omega | (have z_ := unhid u5_; omega))) (by first | with_reducible assumption | exact unhid (by with_reducible assumption) | rfl | (first | omega | (have z_ := unhid u5_; omega))) (by first | with_reducible assumption | exact unhid (by with_reducible assumption) | rfl | (first | omega | (have z_ := unhid u5_; omega)))
              clear h374_1 w357 h374_2 w358 h374_3 h374_4 w360 h374_5 h374_6 h374_7 h374_8 h374_9 w361 h374_10 w362
              refine go_toq PM165 (k := 1) (pc' := 9) (L' := [some (.inr (.inr (some 79))), some (.inl 7)]) (st' := []) (w' := (SH, dt375)) rfl ?_
              exact GO.le (ih_loop252 dt375 hI376 hF378 (by exact ⟨_, hp366, hc389, hi367⟩) (by first | with_reducible assumption | exact unhid (by with_reducible assumption) | (first | omega | (have z_ := unhid u5_; omega)) | exact ⟨_, hp366, hc389, hi367⟩) (by first | with_reducible assumption | exact unhid (by with_reducible assumption) | (first | omega | (have z_ := unhid u5_; omega)) | exact ⟨_, hp366, hc389, hi367⟩) (by first | with_reducible assumption | exact unhid (by with_reducible assumption) | (first | omega | (have z_ := unhid u5_; omega)) | exact ⟨_, hp366, hc389, hi367⟩) (by first | with_reducible assumption | exact unhid (by with_reducible assumption) | (first | omega | (have z_ := unhid u5_; omega)) | exact ⟨_, hp366, hc389, hi367⟩) (by first | with_reducible assumption | exact unhid (by with_reducible assumption) | (first | omega | (have z_ := unhid u5_; omega)) | exact ⟨_, hp366, hc389, hi367⟩) (by first | with_reducible assumption | exact unhid (by with_reducible assumption) | (first | omega | (have z_ := unhid u5_; omega)) | exact ⟨_, hp366, hc389, hi367⟩) (by first | with_reducible assumption | exact unhid (by with_reducible assumption) | (first | omega | (have z_ := unhid u5_; omega)) | exact ⟨_, hp366, hc389, hi367⟩) (by first | with_reducible assumption | exact unhid (by with_reducible assumption) | (first | omega | (have z_ := unhid u5_; omega)) | exact ⟨_, hp366, hc389, hi367⟩) (by first | with_reducible assumption | exact unhid (by with_reducible assumption) | (first | omega | (have z_ := unhid u5_; omega)) | exact ⟨_, hp366, hc389, hi367⟩) (by (first | omega | (have z_ := unhid u5_; omega)))) ⟨.inl rfl, .inr ⟨rfl, trivial⟩, trivial⟩
        · skip
          replace c254 := hid c254
          refine go_ifq PM165 (k := 3) (p1 := 69) (p2 := 29) (L' := [some (.inr (.inr (some 79))), none]) (st' := []) (w' := (SH, dt239)) rfl (c_ne (a := dt239 79 14) (b := 145) (by first | exact bnd r253 (by decide) (by decide) | exact ⟨by (first | omega | (have z0_ := unhid c254; omega)), by (first | omega | (have z0_ := unhid c254; omega))⟩) ⟨by decide, by decide⟩) (fun c390 => ?_) (fun c390 => ?_)
          · skip
            replace c390 := hid c390
            refine go_retq PM165 (k := 1) (r := some (.inl 1)) (w1 := (SH, dt239)) rfl ?_
            exact ⟨dt239, rfl, hI240, hF241, (Or.inr ⟨rfl, ⟨by exact RSX_ok (hpq.trans (by show gQ _ _ 600 gq = _; rw [gQ_u hz (by (first | omega | (have z0_ := unhid c254; have z1_ := unhid c390; omega))) (by (first | omega | (have z0_ := unhid c254; have z1_ := unhid c390; omega))), if_neg (by (first | omega | (have z0_ := unhid c254; have z1_ := unhid c390; omega)))])) hcq, by first | exact True.intro | with_reducible assumption | exact unhid (by with_reducible assumption) | rfl | (first | omega | (have z0_ := unhid c254; have z1_ := unhid c390; omega)) | trivial, by first | exact True.intro | with_reducible assumption | exact unhid (by with_reducible assumption) | rfl | (first | omega | (have z0_ := unhid c254; have z1_ := unhid c390; omega)) | trivial, by exact (InvC_get (by assumption) 79 15 rfl rfl).2, by first | exact True.intro | with_reducible assumption | exact unhid (by with_reducible assumption) | rfl | (first | omega | (have z0_ := unhid c254; have z1_ := unhid c390; omega)) | trivial, by first | exact True.intro | with_reducible assumption | exact unhid (by with_reducible assumption) | rfl | (first | omega | (have z0_ := unhid c254; have z1_ := unhid c390; omega)) | trivial, by first | exact True.intro | with_reducible assumption | exact unhid (by with_reducible assumption) | rfl | (first | omega | (have z0_ := unhid c254; have z1_ := unhid c390; omega)) | trivial, by first | exact True.intro | with_reducible assumption | exact unhid (by with_reducible assumption) | rfl | (first | omega | (have z0_ := unhid c254; have z1_ := unhid c390; omega)) | trivial, by first | exact True.intro | with_reducible assumption | exact unhid (by with_reducible assumption) | rfl | (first | omega | (have z0_ := unhid c254; have z1_ := unhid c390; omega)) | trivial, by first | exact True.intro | with_reducible assumption | exact unhid (by with_reducible assumption) | rfl | (first | omega | (have z0_ := unhid c254; have z1_ := unhid c390; omega)) | trivial⟩⟩)⟩
          · skip
            refine go_ifq PM165 (k := 3) (p1 := 44) (p2 := 39) (L' := [some (.inr (.inr (some 79))), none]) (st' := []) (w' := (SH, dt239)) rfl (c_ne (a := dt239 79 14) (b := 143) (by first | exact bnd r253 (by decide) (by decide) | exact ⟨by (first | omega | (have z0_ := unhid c254; omega)), by (first | omega | (have z0_ := unhid c254; omega))⟩) ⟨by decide, by decide⟩) (fun c391 => ?_) (fun c391 => ?_)
            · skip
              replace c391 := hid c391
              refine go_toq PM165 (k := 3) (pc' := 48) (L' := [some (.inr (.inr (some 79))), some (.inl 8)]) (st' := [.inr (.inr (some 79))]) (w' := (SH, dt239)) rfl ?_
              refine go_callq PM165 PM159 (Q' := _) rfl rfl rfl rfl (sp_X6_next0_p1 L xs sio (d + 2) dt239 hI240   (by first | exact True.intro | with_reducible assumption | exact unhid (by with_reducible assumption) | rfl | (first | omega | (have z0_ := unhid c254; have z1_ := unhid c391; omega)) | trivial) (by first | exact True.intro | with_reducible assumption | exact unhid (by with_reducible assumption) | rfl | (first | omega | (have z0_ := unhid c254; have z1_ := unhid c391; omega)) | trivial)) ?_
              rintro _ _ ⟨dt393, rfl, hI394, hF395, h392⟩
              refine ⟨rfl, ?_⟩
              have hF396 : Fr [79, 84] dt dt393 := Fr_tr hF241 hF395 (by decide)
              rcases h392 with ⟨rfl, h392⟩
              obtain ⟨h392_0, h392_1, h392_2, h392_3, h392_4, h392_5, h392_6, h392_7, h392_8⟩ := h392
              have w397 : dt393 79 2 = dt239 79 2 := h392_2
              have w398 : dt393 79 9 = dt239 79 9 := h392_3
              have w399 : dt393 79 10 = dt239 79 10 := h392_4
              have w400 : dt393 79 11 = dt239 79 11 := h392_5
              have w401 : dt393 79 12 = dt239 79 12 := h392_6
              have w402 : dt393 79 17 = dt239 79 17 := h392_7
              have w403 : dt393 79 20 = dt239 79 20 := h392_8
              have hq404 := h392_0
              rw [show dt239 85 = dt 85 from funext (hF241 85 (by decide)), show dt239 79 12 = dt 79 12 by first | with_reducible assumption | exact unhid (by with_reducible assumption) | (first | omega | (have z0_ := unhid c254; have z1_ := unhid c391; omega)), hbb, show (dt 79 12).toNat = n from (congrArg Int.toNat hnn).trans (Int.toNat_natCast n)] at hq404
              have hc405 : CUR 1 b n dt393 (gq + 1) := CUR_n hcq hq404
              have hi406 : gq + 1 ≤ t := by (have z0_ := unhid c254; have z1_ := unhid c391; omega)
              have av407 : dt239 79 15 + 1 ≤ dt239 79 13 := by (have z0_ := unhid c254; have z1_ := unhid c391; omega)
              have hp408 : (gE (KF 1 b n) (VF b n)) i = (fun i => gB (gT (KF 1 b n) (VF b n) i) (gQ (KF 1 b n) (VF b n) 600)) (gq + 1) := hpq.trans (by show gQ _ _ 600 gq = _; rw [gQ_u hz (by (have z0_ := unhid c254; have z1_ := unhid c391; omega)) (by (have z0_ := unhid c254; have z1_ := unhid c391; omega))]; first | (rw [if_pos (by (have z0_ := unhid c254; have z1_ := unhid c391; omega))]; done) | (rw [if_pos (by (have z0_ := unhid c254; have z1_ := unhid c391; omega))]; rfl))
              clear crq cbq cvq ckq
              have cr409 := hid (CUR_R hc405 (.inr rfl))
              have cd410 := CUR_d (hc405)
              have cb410 := hid (CUR_b hc405)
              have cv411 := hid (CUR_v hc405)
              have ck412 := hid (KZ_lt (i := (gq + 1)) hz)
              have c1413 := (hc405).1
              have ci414 := hi406
              clear h392_2 h392_3 h392_4 h392_5 h392_6 h392_7 h392_8
              refine go_toq PM165 (k := 1) (pc' := 52) (L' := [some (.inr (.inr (some 79))), some (.inl 8)]) (st' := [.inr (.inr (some 79))]) (w' := (SH, dt393)) rfl ?_
              have u6_ := hid (And.intro (unhid c254) (And.intro (unhid c391) (And.intro (unhid cr409) (And.intro (unhid cb410) (And.intro (unhid cv411) (unhid ck412))))))
              refine go_callq PM165 PM166 (Q' := _) rfl rfl rfl rfl (sp_X6_product_g L xs sio (d + 0) dt393 hI394 b n t (gq + 1) (by first | exact hbb | (rw [show dt393 85 = dt 85 from funext (hF396 85 (by decide)), show dt393 79 12 = dt 79 12 by first | with_reducible assumption | exact unhid (by with_reducible assumption) | (first | omega | (have z_ := unhid u6_; omega))]; exact hbb)) (by first | with_reducible assumption | exact unhid (by with_reducible assumption) | exact Eq.trans (by with_reducible assumption) hnn | (first | omega | (have z_ := unhid u6_; omega))) hz ht hc405 hi406 hn5  (by first | exact True.intro | with_reducible assumption | exact unhid (by with_reducible assumption) | rfl | (first | omega | (have z_ := unhid u6_; omega)) | trivial) (by first | exact True.intro | with_reducible assumption | exact unhid (by with_reducible assumption) | rfl | (first | omega | (have z_ := unhid u6_; omega)) | trivial)) ?_
              rintro _ _ ⟨dt416, rfl, hI417, hF418, h415⟩
              refine ⟨rfl, ?_⟩
              have hF419 : Fr [79, 84] dt dt416 := Fr_tr hF396 hF418 (by decide)
              rcases h415 with ⟨rfl, h415⟩ | ⟨rfl, h415⟩
              · skip
                obtain ⟨h415_0, h415_1, h415_2, h415_3, h415_4⟩ := h415
                have w420 : dt416 79 2 = dt239 79 2 := h415_1.trans w397
                have w421 : dt416 79 9 = dt239 79 9 := h415_2.trans w398
                have w422 : dt416 79 10 = dt239 79 10 := h415_3.trans w399
                have w423 : dt416 79 12 = dt239 79 12 := h415_4.trans w401
                have fl424 := RSX_0 h415_0 rfl
                have fe425 : (gE (KF 1 b n) (VF b n)) i = (gT (KF 1 b n) (VF b n)) (gq + 1) := hp408.trans ((show (fun i => gB (gT (KF 1 b n) (VF b n) i) (gQ (KF 1 b n) (VF b n) 600)) (gq + 1) = gB ((gT (KF 1 b n) (VF b n)) (gq + 1)) (gQ (KF 1 b n) (VF b n) 600) by rfl).trans (gB_no fl424.1))
                clear h415_1 w397 h415_2 w398 h415_3 h415_4 w401
                refine go_retq PM165 (k := 2) (r := some (.inl 0)) (w1 := (SH, dt416)) rfl ?_
                exact ⟨dt416, rfl, hI417, hF419, (Or.inl ⟨rfl, ⟨by exact RSX_f fe425 fl424 (by first | rfl | with_reducible assumption | exact unhid (by with_reducible assumption) | (first | omega | (have z_ := unhid u6_; omega))) (by first | rfl | with_reducible assumption | exact unhid (by with_reducible assumption) | (first | omega | (have z_ := unhid u6_; omega))), by first | exact True.intro | with_reducible assumption | exact unhid (by with_reducible assumption) | rfl | (first | omega | (have z_ := unhid u6_; omega)) | trivial, by first | exact True.intro | with_reducible assumption | exact unhid (by with_reducible assumption) | rfl | (first | omega | (have z_ := unhid u6_; omega)) | trivial, by first | exact True.intro | with_reducible assumption | exact unhid (by with_reducible assumption) | rfl | (first | omega | (have z_ := unhid u6_; omega)) | trivial, by first | exact True.intro | with_reducible assumption | exact unhid (by with_reducible assumption) | rfl | (first | omega | (have z_ := unhid u6_; omega)) | trivial⟩⟩)⟩
              · skip
                obtain ⟨h415_0, h415_1, h415_2, h415_3, h415_4, h415_5, h415_6, h415_7, h415_8, h415_9⟩ := h415
                have w426 : dt416 79 2 = dt239 79 2 := h415_4.trans w397
                have w427 : dt416 79 9 = dt239 79 9 := h415_5.trans w398
                have w428 : dt416 79 10 = dt239 79 10 := h415_6.trans w399
                have w429 : dt416 79 12 = dt239 79 12 := h415_7.trans w401
                have w430 : dt416 79 17 = dt239 79 17 := h415_8.trans w402
                have w431 : dt416 79 20 = dt239 79 20 := h415_9.trans w403
                obtain ⟨j432, ej433, hc434⟩ := RSX_1 h415_0 (by decide)
                have hp435 : (gE (KF 1 b n) (VF b n)) i = (gQ (KF 1 b n) (VF b n) 600) j432 := hp408.trans ((show (fun i => gB (gT (KF 1 b n) (VF b n) i) (gQ (KF 1 b n) (VF b n) 600)) (gq + 1) = gB ((gT (KF 1 b n) (VF b n)) (gq + 1)) (gQ (KF 1 b n) (VF b n) 600) by rfl).trans (by rw [ej433]; exact gB_0))
                have hi436 : j432 ≤ t := by have z := gT_M' (K := (KF 1 b n)) (V := (VF b n)) (i := (gq + 1)) hz; rw [ej433] at z; have y := z rfl; simp only at y; (first | omega | (have z_ := unhid u6_; omega))
                clear cr409 cb410 cd410 cv411 ck412
                have cr437 := hid (CUR_R hc434 (.inr rfl))
                have cd438 := CUR_d (hc434)
                have cb438 := hid (CUR_b hc434)
                have cv439 := hid (CUR_v hc434)
                have ck440 := hid (KZ_lt (i := j432) hz)
                have c1441 := (hc434).1
                have ci442 := hi436
                clear h415_4 w397 h415_5 w398 h415_6 h415_7 w401 h415_8 w402 h415_9 w403
                refine go_toq PM165 (k := 4) (pc' := 63) (L' := [some (.inr (.inr (some 79))), some (.inl 8)]) (st' := [.inl 0, .inl 8, .inr (.inr (some 79))]) (w' := (SH, dt416)) rfl ?_
                have u7_ := hid (And.intro (unhid c254) (And.intro (unhid c391) (And.intro (unhid cr437) (And.intro (unhid cb438) (And.intro (unhid cv439) (unhid ck440))))))
                refine go_callq PM165 PM163 (Q' := _) rfl rfl rfl rfl (sp_X6_lay_g L xs sio (d + 8) dt416 hI417  8 ⟨by decide, by decide⟩ 0 ⟨by decide, by decide⟩ (by first | exact True.intro | with_reducible assumption | exact unhid (by with_reducible assumption) | rfl | (first | omega | (have z_ := unhid u7_; omega)) | trivial)) ?_
                rintro _ _ ⟨dt444, rfl, hI445, hF446, h443⟩
                refine ⟨rfl, ?_⟩
                have hF447 : Fr [79, 84] dt dt444 := Fr_tr hF419 hF446 (by decide)
                rcases h443 with ⟨rfl, h443⟩
                obtain ⟨h443_0, h443_1, h443_2, h443_3, h443_4, h443_5, h443_6, h443_7, h443_8, h443_9, h443_10⟩ := h443
                have w448 : dt444 79 2 = dt239 79 2 := h443_1.trans w426
                have w449 : dt444 79 9 = dt239 79 9 := h443_2.trans w427
                have w450 : dt444 79 10 = dt239 79 10 := h443_3.trans w428
                have w451 : dt444 79 12 = dt239 79 12 := h443_4.trans w429
                have w452 : dt444 79 13 = dt416 79 13 := h443_5
                have w453 : dt444 79 14 = dt416 79 14 := h443_6
                have w454 : dt444 79 15 = dt416 79 15 := h443_7
                have w455 : dt444 79 16 = dt416 79 16 := h443_8
                have w456 : dt444 79 17 = dt239 79 17 := h443_9.trans w430
                have w457 : dt444 79 20 = dt239 79 20 := h443_10.trans w431
                have hc458 : CUR 1 b n dt444 j432 := CUR_sm hc434 (by first | with_reducible assumption | exact unhid (by with_reducible assumption) | rfl | (first | omega | (have z_ := unhid u7_; omega))) (by first | with_reducible assumption | exact unhid (by with_reducible assumption) | rfl | (first | omega | (have z_ := unhid u7_; omega))) (by first | with_reducible assumption | exact unhid (by with_reducible assumption) | rfl | (first | omega | (have z_ := unhid u7_; omega))) (by first | with_reducible assumption | exact unhid (by with_reducible assumption) | rfl | (first | omega | (have z_ := unhid u7_; omega)))
                clear h443_1 w426 h443_2 w427 h443_3 h443_4 w429 h443_5 h443_6 h443_7 h443_8 h443_9 w430 h443_10 w431
                refine go_toq PM165 (k := 1) (pc' := 9) (L' := [some (.inr (.inr (some 79))), some (.inl 8)]) (st' := []) (w' := (SH, dt444)) rfl ?_
                exact GO.le (ih_loop252 dt444 hI445 hF447 (by exact ⟨_, hp435, hc458, hi436⟩) (by first | with_reducible assumption | exact unhid (by with_reducible assumption) | (first | omega | (have z_ := unhid u7_; omega)) | exact ⟨_, hp435, hc458, hi436⟩) (by first | with_reducible assumption | exact unhid (by with_reducible assumption) | (first | omega | (have z_ := unhid u7_; omega)) | exact ⟨_, hp435, hc458, hi436⟩) (by first | with_reducible assumption | exact unhid (by with_reducible assumption) | (first | omega | (have z_ := unhid u7_; omega)) | exact ⟨_, hp435, hc458, hi436⟩) (by first | with_reducible assumption | exact unhid (by with_reducible assumption) | (first | omega | (have z_ := unhid u7_; omega)) | exact ⟨_, hp435, hc458, hi436⟩) (by first | with_reducible assumption | exact unhid (by with_reducible assumption) | (first | omega | (have z_ := unhid u7_; omega)) | exact ⟨_, hp435, hc458, hi436⟩) (by first | with_reducible assumption | exact unhid (by with_reducible assumption) | (first | omega | (have z_ := unhid u7_; omega)) | exact ⟨_, hp435, hc458, hi436⟩) (by first | with_reducible assumption | exact unhid (by with_reducible assumption) | (first | omega | (have z_ := unhid u7_; omega)) | exact ⟨_, hp435, hc458, hi436⟩) (by first | with_reducible assumption | exact unhid (by with_reducible assumption) | (first | omega | (have z_ := unhid u7_; omega)) | exact ⟨_, hp435, hc458, hi436⟩) (by first | with_reducible assumption | exact unhid (by with_reducible assumption) | (first | omega | (have z_ := unhid u7_; omega)) | exact ⟨_, hp435, hc458, hi436⟩) (by (first | omega | (have z_ := unhid u7_; omega)))) ⟨.inl rfl, .inr ⟨rfl, trivial⟩, trivial⟩
            · exfalso; (first | omega | (have z0_ := unhid c254; omega))
    have u8_ := hid (And.intro (unhid cr26) (And.intro (unhid cb27) (And.intro (unhid cv28) (unhid ck29))))
    exact GO.le (loop252 _ dt5 hI6 hF8 (by exact ⟨_, hp24, hc23, hi25⟩) (by first | with_reducible assumption | exact unhid (by with_reducible assumption) | (first | omega | (have z_ := unhid u8_; omega)) | exact ⟨_, hp24, hc23, hi25⟩) (by first | with_reducible assumption | exact unhid (by with_reducible assumption) | (first | omega | (have z_ := unhid u8_; omega)) | exact ⟨_, hp24, hc23, hi25⟩) (by first | with_reducible assumption | exact unhid (by with_reducible assumption) | (first | omega | (have z_ := unhid u8_; omega)) | exact ⟨_, hp24, hc23, hi25⟩) (by first | with_reducible assumption | exact unhid (by with_reducible assumption) | (first | omega | (have z_ := unhid u8_; omega)) | exact ⟨_, hp24, hc23, hi25⟩) (by first | with_reducible assumption | exact unhid (by with_reducible assumption) | (first | omega | (have z_ := unhid u8_; omega)) | exact ⟨_, hp24, hc23, hi25⟩) (by first | with_reducible assumption | exact unhid (by with_reducible assumption) | (first | omega | (have z_ := unhid u8_; omega)) | exact ⟨_, hp24, hc23, hi25⟩) (by first | with_reducible assumption | exact unhid (by with_reducible assumption) | (first | omega | (have z_ := unhid u8_; omega)) | exact ⟨_, hp24, hc23, hi25⟩) (by first | with_reducible assumption | exact unhid (by with_reducible assumption) | (first | omega | (have z_ := unhid u8_; omega)) | exact ⟨_, hp24, hc23, hi25⟩) (by first | with_reducible assumption | exact unhid (by with_reducible assumption) | (first | omega | (have z_ := unhid u8_; omega)) | exact ⟨_, hp24, hc23, hi25⟩) (Nat.lt_succ_self _)) ⟨.inl rfl, .inl rfl, trivial⟩
