set_option maxHeartbeats 1500000 in
set_option maxRecDepth 20000 in
theorem sp_X6_product_g (L : Nat) (xs : Nat → Int32) (sio : Option Nat) (d : Nat) (dt : Nat → Nat → Int) (hI : InvC dt) (b : Nat → Int) (n t i : Nat) (hbb : mB (dt 85) (dt 79 12) = b) (hnn : dt 79 12 = (n : Int)) (hz : KZ (KF 1 b n) t) (ht : t ≤ 500) (hc : CUR 1 b n dt i) (hi : i ≤ t) (hn5 : n ≤ 500)  (h_p0 : dt 79 9 = 1) (h_p1 : dt 79 11 ≤ dt 79 15) : GO (am_XX L xs sio) (d + 8) 166 0 [some (.inr (.inr (some 79))), none, none] [] (SH, dt) (fun r w2 => ∃ dt2 : Nat → Nat → Int, w2 = (SH, dt2) ∧ InvC dt2 ∧ Fr [79, 84] dt dt2 ∧ ((r = some (.inl 0) ∧ (RSX 1 b n i dt2 0 ((gT (KF 1 b n) (VF b n)) i)) ∧ (dt2 79 2 = dt 79 2) ∧ (dt2 79 9 = dt 79 9) ∧ (dt2 79 10 = dt 79 10) ∧ (dt2 79 12 = dt 79 12)) ∨ (r = some (.inl 1) ∧ (RSX 1 b n i dt2 1 ((gT (KF 1 b n) (VF b n)) i)) ∧ (dt 79 15 + dt2 79 11 ≤ dt2 79 15 + dt 79 11) ∧ (dt 79 11 + 1 ≤ dt2 79 11) ∧ (dt2 79 15 ≤ 500) ∧ (dt2 79 2 = dt 79 2) ∧ (dt2 79 9 = dt 79 9) ∧ (dt2 79 10 = dt 79 10) ∧ (dt2 79 12 = dt 79 12) ∧ (dt2 79 17 = dt 79 17) ∧ (dt2 79 20 = dt 79 20)))) := by
  have hF : Fr [79, 84] dt dt := Fr_refl
  have r1 : 0 ≤ dt 79 15 ∧ dt 79 15 ≤ 500 := InvC_get hI 79 15 rfl rfl
  have r2 : 0 ≤ dt 79 11 ∧ dt 79 11 ≤ 510 := InvC_get hI 79 11 rfl rfl
  have r3 : 0 ≤ dt 79 10 ∧ dt 79 10 ≤ 24 := InvC_get hI 79 10 rfl rfl
  have cr0 := hid (CUR_R hc (.inr rfl))
  have cd0 := CUR_d (hc)
  have cb0 := hid (CUR_b hc)
  have cv0 := hid (CUR_v hc)
  have ck0 := hid (KZ_lt (i := i) hz)
  have c10 := hc.1
  refine go_toq PM166 (k := 1) (pc' := 1) (L' := [some (.inr (.inr (some 79))), none, none]) (st' := [.inr (.inr (some 79))]) (w' := (SH, dt)) rfl ?_
  have u1_ := hid (And.intro (unhid cr0) (And.intro (unhid cb0) (And.intro (unhid cv0) (unhid ck0))))
  refine go_callq PM166 PM167 (Q' := _) rfl rfl rfl rfl (sp_X6_unit_g L xs sio (d + 0) dt hI b n t i (by first | exact hbb | (rw [show dt 85 = dt 85 from funext (hF 85 (by decide)), show dt 79 12 = dt 79 12 by first | with_reducible assumption | exact unhid (by with_reducible assumption) | (first | omega | (have z_ := unhid u1_; omega))]; exact hbb)) (by first | with_reducible assumption | exact unhid (by with_reducible assumption) | exact Eq.trans (by with_reducible assumption) hnn | (first | omega | (have z_ := unhid u1_; omega))) hz ht hc hi hn5  (by first | exact True.intro | with_reducible assumption | exact unhid (by with_reducible assumption) | rfl | (first | omega | (have z_ := unhid u1_; omega)) | trivial) (by first | exact True.intro | with_reducible assumption | exact unhid (by with_reducible assumption) | rfl | (first | omega | (have z_ := unhid u1_; omega)) | trivial)) ?_
  rintro _ _ ⟨dt5, rfl, hI6, hF7, h4⟩
  refine ⟨rfl, ?_⟩
  have hF8 : Fr [79, 84] dt dt5 := Fr_tr hF hF7 (by decide)
  rcases h4 with ⟨rfl, h4⟩ | ⟨rfl, h4⟩
  · skip
    obtain ⟨h4_0, h4_1, h4_2, h4_3, h4_4⟩ := h4
    have w9 : dt5 79 2 = dt 79 2 := h4_1
    have w10 : dt5 79 9 = dt 79 9 := h4_2
    have w11 : dt5 79 10 = dt 79 10 := h4_3
    have w12 : dt5 79 12 = dt 79 12 := h4_4
    have fl13 := RSX_0 h4_0 rfl
    have fe14 : (gT (KF 1 b n) (VF b n)) i = (gU (KF 1 b n)) i := (rfl : (gT (KF 1 b n) (VF b n)) i = (gT (KF 1 b n) (VF b n)) i).trans ((show (gT (KF 1 b n) (VF b n)) i = gB ((gU (KF 1 b n)) i) (gP (KF 1 b n) (VF b n) 600) by rfl).trans (gB_no fl13.1))
    clear h4_1 h4_2 h4_3 h4_4
    refine go_retq PM166 (k := 2) (r := some (.inl 0)) (w1 := (SH, dt5)) rfl ?_
    exact ⟨dt5, rfl, hI6, hF8, (Or.inl ⟨rfl, ⟨by exact RSX_f fe14 fl13 (by first | rfl | with_reducible assumption | exact unhid (by with_reducible assumption) | (first | omega | (have z_ := unhid u1_; omega))) (by first | rfl | with_reducible assumption | exact unhid (by with_reducible assumption) | (first | omega | (have z_ := unhid u1_; omega))), by first | exact True.intro | with_reducible assumption | exact unhid (by with_reducible assumption) | rfl | (first | omega | (have z_ := unhid u1_; omega)) | trivial, by first | exact True.intro | with_reducible assumption | exact unhid (by with_reducible assumption) | rfl | (first | omega | (have z_ := unhid u1_; omega)) | trivial, by first | exact True.intro | with_reducible assumption | exact unhid (by with_reducible assumption) | rfl | (first | omega | (have z_ := unhid u1_; omega)) | trivial, by first | exact True.intro | with_reducible assumption | exact unhid (by with_reducible assumption) | rfl | (first | omega | (have z_ := unhid u1_; omega)) | trivial⟩⟩)⟩
  · skip
    obtain ⟨h4_0, h4_1, h4_2, h4_3, h4_4, h4_5, h4_6, h4_7, h4_8, h4_9⟩ := h4
    have w15 : dt5 79 2 = dt 79 2 := h4_4
    have w16 : dt5 79 9 = dt 79 9 := h4_5
    have w17 : dt5 79 10 = dt 79 10 := h4_6
    have w18 : dt5 79 12 = dt 79 12 := h4_7
    have w19 : dt5 79 17 = dt 79 17 := h4_8
    have w20 : dt5 79 20 = dt 79 20 := h4_9
    obtain ⟨j21, ej22, hc23⟩ := RSX_1 h4_0 (by decide)
    have hp24 : (gT (KF 1 b n) (VF b n)) i = (gP (KF 1 b n) (VF b n) 600) j21 := (rfl : (gT (KF 1 b n) (VF b n)) i = (gT (KF 1 b n) (VF b n)) i).trans ((show (gT (KF 1 b n) (VF b n)) i = gB ((gU (KF 1 b n)) i) (gP (KF 1 b n) (VF b n) 600) by rfl).trans (by rw [ej22]; exact gB_0))
    have hi25 : j21 ≤ t := by have z := gU_M (K := (KF 1 b n)) (i := i) hz; rw [ej22] at z; have y := z rfl; simp only at y; (first | omega | (have z_ := unhid u1_; omega))
    clear cr0 cb0 cd0 cv0 ck0
    have cr26 := hid (CUR_R hc23 (.inr rfl))
    have cd27 := CUR_d (hc23)
    have cb27 := hid (CUR_b hc23)
    have cv28 := hid (CUR_v hc23)
    have ck29 := hid (KZ_lt (i := j21) hz)
    have c130 := (hc23).1
    have ci31 := hi25
    clear h4_4 h4_5 h4_6 h4_7 h4_8 h4_9
    refine go_toq PM166 (k := 1) (pc' := 9) (L' := [some (.inr (.inr (some 79))), none, none]) (st' := []) (w' := (SH, dt5)) rfl ?_
    have loop254 : ∀ (k_ : Nat) (dt241 : Nat → Nat → Int) (hI242 : InvC dt241) (hF243 : Fr [79, 84] dt dt241) (i244 : ∃ q : Nat, (gT (KF 1 b n) (VF b n)) i = (gP (KF 1 b n) (VF b n) 600) q ∧ CUR 1 b n dt241 q ∧ q ≤ t) (i245 : dt 79 15 + dt241 79 11 ≤ dt241 79 15 + dt 79 11) (i246 : dt 79 11 + 1 ≤ dt241 79 11) (i247 : dt241 79 15 ≤ 500) (i248 : dt241 79 2 = dt 79 2) (i249 : dt241 79 9 = dt 79 9) (i250 : dt241 79 10 = dt 79 10) (i251 : dt241 79 12 = dt 79 12) (i252 : dt241 79 17 = dt 79 17) (i253 : dt241 79 20 = dt 79 20), (502 - dt241 79 15).toNat < k_ → GO (am_XX L xs sio) (d + 8) 166 9 [some (.inr (.inr (some 79))), none, none] [] (SH, dt241) (fun r w2 => ∃ dt2 : Nat → Nat → Int, w2 = (SH, dt2) ∧ InvC dt2 ∧ Fr [79, 84] dt dt2 ∧ ((r = some (.inl 0) ∧ (RSX 1 b n i dt2 0 ((gT (KF 1 b n) (VF b n)) i)) ∧ (dt2 79 2 = dt 79 2) ∧ (dt2 79 9 = dt 79 9) ∧ (dt2 79 10 = dt 79 10) ∧ (dt2 79 12 = dt 79 12)) ∨ (r = some (.inl 1) ∧ (RSX 1 b n i dt2 1 ((gT (KF 1 b n) (VF b n)) i)) ∧ (dt 79 15 + dt2 79 11 ≤ dt2 79 15 + dt 79 11) ∧ (dt 79 11 + 1 ≤ dt2 79 11) ∧ (dt2 79 15 ≤ 500) ∧ (dt2 79 2 = dt 79 2) ∧ (dt2 79 9 = dt 79 9) ∧ (dt2 79 10 = dt 79 10) ∧ (dt2 79 12 = dt 79 12) ∧ (dt2 79 17 = dt 79 17) ∧ (dt2 79 20 = dt 79 20)))) := by
      intro k_
      induction k_ with
      | zero => intro dt241 hI242 hF243 i244 i245 i246 i247 i248 i249 i250 i251 i252 i253 hm; exact absurd hm (Nat.not_lt_zero _)
      | succ k_ ih_loop254 =>
        intro dt241 hI242 hF243 i244 i245 i246 i247 i248 i249 i250 i251 i252 i253 hm
        clear cr26 cb27 cd27 cv28 ck29
        obtain ⟨gq, hpq, hcq, hiq⟩ := i244
        have crq := CUR_R hcq (.inr rfl)
        have cbq := CUR_b hcq
        have cvq := CUR_v hcq
        have ckq := KZ_lt (i := gq) hz
        have c1q := hcq.1
        have r255 : (-2147483648) ≤ dt241 79 14 ∧ dt241 79 14 ≤ 2147483647 := InvC_get hI242 79 14 rfl rfl
        refine go_ifq PM166 (k := 3) (p1 := 29) (p2 := 19) (L' := [some (.inr (.inr (some 79))), none, none]) (st' := []) (w' := (SH, dt241)) rfl (c_eq (a := dt241 79 14) (b := 142) (by first | exact bnd r255 (by decide) (by decide) | exact ⟨by omega, by omega⟩) ⟨by decide, by decide⟩) (fun c256 => ?_) (fun c256 => ?_)
        · skip
          refine go_ifq PM166 (k := 3) (p1 := 43) (p2 := 39) (L' := [some (.inr (.inr (some 79))), none, none]) (st' := []) (w' := (SH, dt241)) rfl (c_ne (a := dt241 79 14) (b := 147) (by first | exact bnd r255 (by decide) (by decide) | exact ⟨by omega, by omega⟩) ⟨by decide, by decide⟩) (fun c257 => ?_) (fun c257 => ?_)
          · skip
            replace c257 := hid c257
            refine go_toq PM166 (k := 3) (pc' := 46) (L' := [some (.inr (.inr (some 79))), some (.inl 0), none]) (st' := [.inr (.inr (some 79))]) (w' := (SH, dt241)) rfl ?_
            refine go_callq PM166 PM159 (Q' := _) rfl rfl rfl rfl (sp_X6_next0_p1 L xs sio (d + 1) dt241 hI242   (by first | exact True.intro | with_reducible assumption | exact unhid (by with_reducible assumption) | rfl | (first | omega | (have z0_ := unhid c257; omega)) | trivial) (by first | exact True.intro | with_reducible assumption | exact unhid (by with_reducible assumption) | rfl | (first | omega | (have z0_ := unhid c257; omega)) | trivial)) ?_
            rintro _ _ ⟨dt259, rfl, hI260, hF261, h258⟩
            refine ⟨rfl, ?_⟩
            have hF262 : Fr [79, 84] dt dt259 := Fr_tr hF243 hF261 (by decide)
            rcases h258 with ⟨rfl, h258⟩
            obtain ⟨h258_0, h258_1, h258_2, h258_3, h258_4, h258_5, h258_6, h258_7, h258_8⟩ := h258
            have w263 : dt259 79 2 = dt241 79 2 := h258_2
            have w264 : dt259 79 9 = dt241 79 9 := h258_3
            have w265 : dt259 79 10 = dt241 79 10 := h258_4
            have w266 : dt259 79 11 = dt241 79 11 := h258_5
            have w267 : dt259 79 12 = dt241 79 12 := h258_6
            have w268 : dt259 79 17 = dt241 79 17 := h258_7
            have w269 : dt259 79 20 = dt241 79 20 := h258_8
            have hq270 := h258_0
            rw [show dt241 85 = dt 85 from funext (hF243 85 (by decide)), show dt241 79 12 = dt 79 12 by first | with_reducible assumption | exact unhid (by with_reducible assumption) | (first | omega | (have z0_ := unhid c257; omega)), hbb, show (dt 79 12).toNat = n from (congrArg Int.toNat hnn).trans (Int.toNat_natCast n)] at hq270
            have hc271 : CUR 1 b n dt259 (gq + 1) := CUR_n hcq hq270
            have hi272 : gq + 1 ≤ t := by (have z0_ := unhid c257; omega)
            have av273 : dt241 79 15 + 1 ≤ dt241 79 13 := by (have z0_ := unhid c257; omega)
            have hp274 : (gT (KF 1 b n) (VF b n)) i = (fun i => gB (gU (KF 1 b n) i) (gP (KF 1 b n) (VF b n) 600)) (gq + 1) := hpq.trans (by show gP _ _ 600 gq = _; rw [gP_u hz (by (have z0_ := unhid c257; omega)) (by (have z0_ := unhid c257; omega))]; first | (rw [if_pos (by (have z0_ := unhid c257; omega))]; done) | (rw [if_pos (by (have z0_ := unhid c257; omega))]; rfl))
            clear crq cbq cvq ckq
            have cr275 := hid (CUR_R hc271 (.inr rfl))
            have cd276 := CUR_d (hc271)
            have cb276 := hid (CUR_b hc271)
            have cv277 := hid (CUR_v hc271)
            have ck278 := hid (KZ_lt (i := (gq + 1)) hz)
            have c1279 := (hc271).1
            have ci280 := hi272
            clear h258_2 h258_3 h258_4 h258_5 h258_6 h258_7 h258_8
            refine go_toq PM166 (k := 3) (pc' := 82) (L' := [some (.inr (.inr (some 79))), some (.inl 0), none]) (st' := [.inr (.inr (some 79))]) (w' := (SH, dt259)) rfl ?_
            have u2_ := hid (And.intro (unhid c257) (And.intro (unhid cr275) (And.intro (unhid cb276) (And.intro (unhid cv277) (unhid ck278)))))
            refine go_callq PM166 PM167 (Q' := _) rfl rfl rfl rfl (sp_X6_unit_g L xs sio (d + 0) dt259 hI260 b n t (gq + 1) (by first | exact hbb | (rw [show dt259 85 = dt 85 from funext (hF262 85 (by decide)), show dt259 79 12 = dt 79 12 by first | with_reducible assumption | exact unhid (by with_reducible assumption) | (first | omega | (have z_ := unhid u2_; omega))]; exact hbb)) (by first | with_reducible assumption | exact unhid (by with_reducible assumption) | exact Eq.trans (by with_reducible assumption) hnn | (first | omega | (have z_ := unhid u2_; omega))) hz ht hc271 hi272 hn5  (by first | exact True.intro | with_reducible assumption | exact unhid (by with_reducible assumption) | rfl | (first | omega | (have z_ := unhid u2_; omega)) | trivial) (by first | exact True.intro | with_reducible assumption | exact unhid (by with_reducible assumption) | rfl | (first | omega | (have z_ := unhid u2_; omega)) | trivial)) ?_
            rintro _ _ ⟨dt282, rfl, hI283, hF284, h281⟩
            refine ⟨rfl, ?_⟩
            have hF285 : Fr [79, 84] dt dt282 := Fr_tr hF262 hF284 (by decide)
            rcases h281 with ⟨rfl, h281⟩ | ⟨rfl, h281⟩
            · skip
              obtain ⟨h281_0, h281_1, h281_2, h281_3, h281_4⟩ := h281
              have w286 : dt282 79 2 = dt241 79 2 := h281_1.trans w263
              have w287 : dt282 79 9 = dt241 79 9 := h281_2.trans w264
              have w288 : dt282 79 10 = dt241 79 10 := h281_3.trans w265
              have w289 : dt282 79 12 = dt241 79 12 := h281_4.trans w267
              have fl290 := RSX_0 h281_0 rfl
              have fe291 : (gT (KF 1 b n) (VF b n)) i = (gU (KF 1 b n)) (gq + 1) := hp274.trans ((show (fun i => gB (gU (KF 1 b n) i) (gP (KF 1 b n) (VF b n) 600)) (gq + 1) = gB ((gU (KF 1 b n)) (gq + 1)) (gP (KF 1 b n) (VF b n) 600) by rfl).trans (gB_no fl290.1))
              clear h281_1 w263 h281_2 w264 h281_3 h281_4 w267
              refine go_retq PM166 (k := 2) (r := some (.inl 0)) (w1 := (SH, dt282)) rfl ?_
              exact ⟨dt282, rfl, hI283, hF285, (Or.inl ⟨rfl, ⟨by exact RSX_f fe291 fl290 (by first | rfl | with_reducible assumption | exact unhid (by with_reducible assumption) | (first | omega | (have z_ := unhid u2_; omega))) (by first | rfl | with_reducible assumption | exact unhid (by with_reducible assumption) | (first | omega | (have z_ := unhid u2_; omega))), by first | exact True.intro | with_reducible assumption | exact unhid (by with_reducible assumption) | rfl | (first | omega | (have z_ := unhid u2_; omega)) | trivial, by first | exact True.intro | with_reducible assumption | exact unhid (by with_reducible assumption) | rfl | (first | omega | (have z_ := unhid u2_; omega)) | trivial, by first | exact True.intro | with_reducible assumption | exact unhid (by with_reducible assumption) | rfl | (first | omega | (have z_ := unhid u2_; omega)) | trivial, by first | exact True.intro | with_reducible assumption | exact unhid (by with_reducible assumption) | rfl | (first | omega | (have z_ := unhid u2_; omega)) | trivial⟩⟩)⟩
            · skip
              obtain ⟨h281_0, h281_1, h281_2, h281_3, h281_4, h281_5, h281_6, h281_7, h281_8, h281_9⟩ := h281
              have w292 : dt282 79 2 = dt241 79 2 := h281_4.trans w263
              have w293 : dt282 79 9 = dt241 79 9 := h281_5.trans w264
              have w294 : dt282 79 10 = dt241 79 10 := h281_6.trans w265
              have w295 : dt282 79 12 = dt241 79 12 := h281_7.trans w267
              have w296 : dt282 79 17 = dt241 79 17 := h281_8.trans w268
              have w297 : dt282 79 20 = dt241 79 20 := h281_9.trans w269
              obtain ⟨j298, ej299, hc300⟩ := RSX_1 h281_0 (by decide)
              have hp301 : (gT (KF 1 b n) (VF b n)) i = (gP (KF 1 b n) (VF b n) 600) j298 := hp274.trans ((show (fun i => gB (gU (KF 1 b n) i) (gP (KF 1 b n) (VF b n) 600)) (gq + 1) = gB ((gU (KF 1 b n)) (gq + 1)) (gP (KF 1 b n) (VF b n) 600) by rfl).trans (by rw [ej299]; exact gB_0))
              have hi302 : j298 ≤ t := by have z := gU_M (K := (KF 1 b n)) (i := (gq + 1)) hz; rw [ej299] at z; have y := z rfl; simp only at y; (first | omega | (have z_ := unhid u2_; omega))
              clear cr275 cb276 cd276 cv277 ck278
              have cr303 := hid (CUR_R hc300 (.inr rfl))
              have cd304 := CUR_d (hc300)
              have cb304 := hid (CUR_b hc300)
              have cv305 := hid (CUR_v hc300)
              have ck306 := hid (KZ_lt (i := j298) hz)
              have c1307 := (hc300).1
              have ci308 := hi302
              clear h281_4 w263 h281_5 w264 h281_6 h281_7 w267 h281_8 w268 h281_9 w269
              refine go_toq PM166 (k := 4) (pc' := 94) (L' := [some (.inr (.inr (some 79))), some (.inl 0), none]) (st' := [.inl 0, .inl 9, .inr (.inr (some 79))]) (w' := (SH, dt282)) rfl ?_
              have u3_ := hid (And.intro (unhid c257) (And.intro (unhid cr303) (And.intro (unhid cb304) (And.intro (unhid cv305) (unhid ck306)))))
              refine go_callq PM166 PM163 (Q' := _) rfl rfl rfl rfl (sp_X6_lay_g L xs sio (d + 7) dt282 hI283  9 ⟨by decide, by decide⟩ 0 ⟨by decide, by decide⟩ (by first | exact True.intro | with_reducible assumption | exact unhid (by with_reducible assumption) | rfl | (first | omega | (have z_ := unhid u3_; omega)) | trivial)) ?_
              rintro _ _ ⟨dt310, rfl, hI311, hF312, h309⟩
              refine ⟨rfl, ?_⟩
              have hF313 : Fr [79, 84] dt dt310 := Fr_tr hF285 hF312 (by decide)
              rcases h309 with ⟨rfl, h309⟩
              obtain ⟨h309_0, h309_1, h309_2, h309_3, h309_4, h309_5, h309_6, h309_7, h309_8, h309_9, h309_10⟩ := h309
              have w314 : dt310 79 2 = dt241 79 2 := h309_1.trans w292
              have w315 : dt310 79 9 = dt241 79 9 := h309_2.trans w293
              have w316 : dt310 79 10 = dt241 79 10 := h309_3.trans w294
              have w317 : dt310 79 12 = dt241 79 12 := h309_4.trans w295
              have w318 : dt310 79 13 = dt282 79 13 := h309_5
              have w319 : dt310 79 14 = dt282 79 14 := h309_6
              have w320 : dt310 79 15 = dt282 79 15 := h309_7
              have w321 : dt310 79 16 = dt282 79 16 := h309_8
              have w322 : dt310 79 17 = dt241 79 17 := h309_9.trans w296
              have w323 : dt310 79 20 = dt241 79 20 := h309_10.trans w297
              have hc324 : CUR 1 b n dt310 j298 := CUR_sm hc300 (by first | with_reducible assumption | exact unhid (by with_reducible assumption) | rfl | (first | omega | (have z_ := unhid u3_; omega))) (by first | with_reducible assumption | exact unhid (by with_reducible assumption) | rfl | (first | omega | (have z_ := unhid u3_; omega))) (by first | with_reducible assumption | exact unhid (by with_reducible assumption) | rfl | (first | omega | (have z_ := unhid u3_; omega))) (by first | with_reducible assumption | exact unhid (by with_reducible assumption) | rfl | (first | omega | (have z_ := unhid u3_; omega)))
              clear h309_1 w292 h309_2 w293 h309_3 h309_4 w295 h309_5 h309_6 h309_7 h309_8 h309_9 w296 h309_10 w297
              refine go_toq PM166 (k := 1) (pc' := 9) (L' := [some (.inr (.inr (some 79))), some (.inl 0), none]) (st' := []) (w' := (SH, dt310)) rfl ?_
              exact GO.le (ih_loop254 dt310 hI311 hF313 (by exact ⟨_, hp301, hc324, hi302⟩) (by first | with_reducible assumption | exact unhid (by with_reducible assumption) | (first | omega | (have z_ := unhid u3_; omega)) | exact ⟨_, hp301, hc324, hi302⟩) (by first | with_reducible assumption | exact unhid (by with_reducible assumption) | (first | omega | (have z_ := unhid u3_; omega)) | exact ⟨_, hp301, hc324, hi302⟩) (by first | with_reducible assumption | exact unhid (by with_reducible assumption) | (first | omega | (have z_ := unhid u3_; omega)) | exact ⟨_, hp301, hc324, hi302⟩) (by first | with_reducible assumption | exact unhid (by with_reducible assumption) | (first | omega | (have z_ := unhid u3_; omega)) | exact ⟨_, hp301, hc324, hi302⟩) (by first | with_reducible assumption | exact unhid (by with_reducible assumption) | (first | omega | (have z_ := unhid u3_; omega)) | exact ⟨_, hp301, hc324, hi302⟩) (by first | with_reducible assumption | exact unhid (by with_reducible assumption) | (first | omega | (have z_ := unhid u3_; omega)) | exact ⟨_, hp301, hc324, hi302⟩) (by first | with_reducible assumption | exact unhid (by with_reducible assumption) | (first | omega | (have z_ := unhid u3_; omega)) | exact ⟨_, hp301, hc324, hi302⟩) (by first | with_reducible assumption | exact unhid (by with_reducible assumption) | (first | omega | (have z_ := unhid u3_; omega)) | exact ⟨_, hp301, hc324, hi302⟩) (by first | with_reducible assumption | exact unhid (by with_reducible assumption) | (first | omega | (have z_ := unhid u3_; omega)) | exact ⟨_, hp301, hc324, hi302⟩) (by (first | omega | (have z_ := unhid u3_; omega)))) ⟨.inl rfl, .inr ⟨rfl, trivial⟩, .inl rfl, trivial⟩
          · exfalso; omega
        · skip
          replace c256 := hid c256
          refine go_ifq PM166 (k := 3) (p1 := 100) (p2 := 29) (L' := [some (.inr (.inr (some 79))), none, none]) (st' := []) (w' := (SH, dt241)) rfl (c_ne (a := dt241 79 14) (b := 147) (by first | exact bnd r255 (by decide) (by decide) | exact ⟨by (first | omega | (have z0_ := unhid c256; omega)), by (first | omega | (have z0_ := unhid c256; omega))⟩) ⟨by decide, by decide⟩) (fun c325 => ?_) (fun c325 => ?_)
          · skip
            replace c325 := hid c325
            refine go_retq PM166 (k := 1) (r := some (.inl 1)) (w1 := (SH, dt241)) rfl ?_
            exact ⟨dt241, rfl, hI242, hF243, (Or.inr ⟨rfl, ⟨by exact RSX_ok (hpq.trans (by show gP _ _ 600 gq = _; rw [gP_u hz (by (first | omega | (have z0_ := unhid c256; have z1_ := unhid c325; omega))) (by (first | omega | (have z0_ := unhid c256; have z1_ := unhid c325; omega))), if_neg (by (first | omega | (have z0_ := unhid c256; have z1_ := unhid c325; omega))), if_neg (by (first | omega | (have z0_ := unhid c256; have z1_ := unhid c325; omega)))])) hcq, by first | exact True.intro | with_reducible assumption | exact unhid (by with_reducible assumption) | rfl | (first | omega | (have z0_ := unhid c256; have z1_ := unhid c325; omega)) | trivial, by first | exact True.intro | with_reducible assumption | exact unhid (by with_reducible assumption) | rfl | (first | omega | (have z0_ := unhid c256; have z1_ := unhid c325; omega)) | trivial, by exact (InvC_get (by assumption) 79 15 rfl rfl).2, by first | exact True.intro | with_reducible assumption | exact unhid (by with_reducible assumption) | rfl | (first | omega | (have z0_ := unhid c256; have z1_ := unhid c325; omega)) | trivial, by first | exact True.intro | with_reducible assumption | exact unhid (by with_reducible assumption) | rfl | (first | omega | (have z0_ := unhid c256; have z1_ := unhid c325; omega)) | trivial, by first | exact True.intro | with_reducible assumption | exact unhid (by with_reducible assumption) | rfl | (first | omega | (have z0_ := unhid c256; have z1_ := unhid c325; omega)) | trivial, by first | exact True.intro | with_reducible assumption | exact unhid (by with_reducible assumption) | rfl | (first | omega | (have z0_ := unhid c256; have z1_ := unhid c325; omega)) | trivial, by first | exact True.intro | with_reducible assumption | exact unhid (by with_reducible assumption) | rfl | (first | omega | (have z0_ := unhid c256; have z1_ := unhid c325; omega)) | trivial, by first | exact True.intro | with_reducible assumption | exact unhid (by with_reducible assumption) | rfl | (first | omega | (have z0_ := unhid c256; have z1_ := unhid c325; omega)) | trivial⟩⟩)⟩
          · skip
            refine go_ifq PM166 (k := 3) (p1 := 43) (p2 := 39) (L' := [some (.inr (.inr (some 79))), none, none]) (st' := []) (w' := (SH, dt241)) rfl (c_ne (a := dt241 79 14) (b := 147) (by first | exact bnd r255 (by decide) (by decide) | exact ⟨by (first | omega | (have z0_ := unhid c256; omega)), by (first | omega | (have z0_ := unhid c256; omega))⟩) ⟨by decide, by decide⟩) (fun c326 => ?_) (fun c326 => ?_)
            · skip
              replace c326 := hid c326
              refine go_toq PM166 (k := 3) (pc' := 46) (L' := [some (.inr (.inr (some 79))), some (.inl 0), none]) (st' := [.inr (.inr (some 79))]) (w' := (SH, dt241)) rfl ?_
              refine go_callq PM166 PM159 (Q' := _) rfl rfl rfl rfl (sp_X6_next0_p1 L xs sio (d + 1) dt241 hI242   (by first | exact True.intro | with_reducible assumption | exact unhid (by with_reducible assumption) | rfl | (first | omega | (have z0_ := unhid c256; have z1_ := unhid c326; omega)) | trivial) (by first | exact True.intro | with_reducible assumption | exact unhid (by with_reducible assumption) | rfl | (first | omega | (have z0_ := unhid c256; have z1_ := unhid c326; omega)) | trivial)) ?_
              rintro _ _ ⟨dt328, rfl, hI329, hF330, h327⟩
              refine ⟨rfl, ?_⟩
              have hF331 : Fr [79, 84] dt dt328 := Fr_tr hF243 hF330 (by decide)
              rcases h327 with ⟨rfl, h327⟩
              obtain ⟨h327_0, h327_1, h327_2, h327_3, h327_4, h327_5, h327_6, h327_7, h327_8⟩ := h327
              have w332 : dt328 79 2 = dt241 79 2 := h327_2
              have w333 : dt328 79 9 = dt241 79 9 := h327_3
              have w334 : dt328 79 10 = dt241 79 10 := h327_4
              have w335 : dt328 79 11 = dt241 79 11 := h327_5
              have w336 : dt328 79 12 = dt241 79 12 := h327_6
              have w337 : dt328 79 17 = dt241 79 17 := h327_7
              have w338 : dt328 79 20 = dt241 79 20 := h327_8
              have hq339 := h327_0
              rw [show dt241 85 = dt 85 from funext (hF243 85 (by decide)), show dt241 79 12 = dt 79 12 by first | with_reducible assumption | exact unhid (by with_reducible assumption) | (first | omega | (have z0_ := unhid c256; have z1_ := unhid c326; omega)), hbb, show (dt 79 12).toNat = n from (congrArg Int.toNat hnn).trans (Int.toNat_natCast n)] at hq339
              have hc340 : CUR 1 b n dt328 (gq + 1) := CUR_n hcq hq339
              have hi341 : gq + 1 ≤ t := by (have z0_ := unhid c256; have z1_ := unhid c326; omega)
              have av342 : dt241 79 15 + 1 ≤ dt241 79 13 := by (have z0_ := unhid c256; have z1_ := unhid c326; omega)
              have hp343 : (gT (KF 1 b n) (VF b n)) i = (fun i => gB (gU (KF 1 b n) i) (gP (KF 1 b n) (VF b n) 600)) (gq + 1) := hpq.trans (by show gP _ _ 600 gq = _; rw [gP_u hz (by (have z0_ := unhid c256; have z1_ := unhid c326; omega)) (by (have z0_ := unhid c256; have z1_ := unhid c326; omega))]; first | (rw [if_pos (by (have z0_ := unhid c256; have z1_ := unhid c326; omega))]; done) | (rw [if_pos (by (have z0_ := unhid c256; have z1_ := unhid c326; omega))]; rfl))
              clear crq cbq cvq ckq
              have cr344 := hid (CUR_R hc340 (.inr rfl))
              have cd345 := CUR_d (hc340)
              have cb345 := hid (CUR_b hc340)
              have cv346 := hid (CUR_v hc340)
              have ck347 := hid (KZ_lt (i := (gq + 1)) hz)
              have c1348 := (hc340).1
              have ci349 := hi341
              clear h327_2 h327_3 h327_4 h327_5 h327_6 h327_7 h327_8
              refine go_toq PM166 (k := 3) (pc' := 82) (L' := [some (.inr (.inr (some 79))), some (.inl 0), none]) (st' := [.inr (.inr (some 79))]) (w' := (SH, dt328)) rfl ?_
              have u4_ := hid (And.intro (unhid c256) (And.intro (unhid c326) (And.intro (unhid cr344) (And.intro (unhid cb345) (And.intro (unhid cv346) (unhid ck347))))))
              refine go_callq PM166 PM167 (Q' := _) rfl rfl rfl rfl (sp_X6_unit_g L xs sio (d + 0) dt328 hI329 b n t (gq + 1) (by first | exact hbb | (rw [show dt328 85 = dt 85 from funext (hF331 85 (by decide)), show dt328 79 12 = dt 79 12 by first | with_reducible assumption | exact unhid (by with_reducible assumption) | (first | omega | (have z_ := unhid u4_; omega))]; exact hbb)) (by first | with_reducible assumption | exact unhid (by with_reducible assumption) | exact Eq.trans (by with_reducible assumption) hnn | (first | omega | (have z_ := unhid u4_; omega))) hz ht hc340 hi341 hn5  (by first | exact True.intro | with_reducible assumption | exact unhid (by with_reducible assumption) | rfl | (first | omega | (have z_ := unhid u4_; omega)) | trivial) (by first | exact True.intro | with_reducible assumption | exact unhid (by with_reducible assumption) | rfl | (first | omega | (have z_ := unhid u4_; omega)) | trivial)) ?_
              rintro _ _ ⟨dt351, rfl, hI352, hF353, h350⟩
              refine ⟨rfl, ?_⟩
              have hF354 : Fr [79, 84] dt dt351 := Fr_tr hF331 hF353 (by decide)
              rcases h350 with ⟨rfl, h350⟩ | ⟨rfl, h350⟩
              · skip
                obtain ⟨h350_0, h350_1, h350_2, h350_3, h350_4⟩ := h350
                have w355 : dt351 79 2 = dt241 79 2 := h350_1.trans w332
                have w356 : dt351 79 9 = dt241 79 9 := h350_2.trans w333
                have w357 : dt351 79 10 = dt241 79 10 := h350_3.trans w334
                have w358 : dt351 79 12 = dt241 79 12 := h350_4.trans w336
                have fl359 := RSX_0 h350_0 rfl
                have fe360 : (gT (KF 1 b n) (VF b n)) i = (gU (KF 1 b n)) (gq + 1) := hp343.trans ((show (fun i => gB (gU (KF 1 b n) i) (gP (KF 1 b n) (VF b n) 600)) (gq + 1) = gB ((gU (KF 1 b n)) (gq + 1)) (gP (KF 1 b n) (VF b n) 600) by rfl).trans (gB_no fl359.1))
                clear h350_1 w332 h350_2 w333 h350_3 h350_4 w336
                refine go_retq PM166 (k := 2) (r := some (.inl 0)) (w1 := (SH, dt351)) rfl ?_
                exact ⟨dt351, rfl, hI352, hF354, (Or.inl ⟨rfl, ⟨by exact RSX_f fe360 fl359 (by first | rfl | with_reducible assumption | exact unhid (by with_reducible assumption) | (first | omega | (have z_ := unhid u4_; omega))) (by first | rfl | with_reducible assumption | exact unhid (by with_reducible assumption) | (first | omega | (have z_ := unhid u4_; omega))), by first | exact True.intro | with_reducible assumption | exact unhid (by with_reducible assumption) | rfl | (first | omega | (have z_ := unhid u4_; omega)) | trivial, by first | exact True.intro | with_reducible assumption | exact unhid (by with_reducible assumption) | rfl | (first | omega | (have z_ := unhid u4_; omega)) | trivial, by first | exact True.intro | with_reducible assumption | exact unhid (by with_reducible assumption) | rfl | (first | omega | (have z_ := unhid u4_; omega)) | trivial, by first | exact True.intro | with_reducible assumption | exact unhid (by with_reducible assumption) | rfl | (first | omega | (have z_ := unhid u4_; omega)) | trivial⟩⟩)⟩
              · skip
                obtain ⟨h350_0, h350_1, h350_2, h350_3, h350_4, h350_5, h350_6, h350_7, h350_8, h350_9⟩ := h350
                have w361 : dt351 79 2 = dt241 79 2 := h350_4.trans w332
                have w362 : dt351 79 9 = dt241 79 9 := h350_5.trans w333
                have w363 : dt351 79 10 = dt241 79 10 := h350_6.trans w334
                have w364 : dt351 79 12 = dt241 79 12 := h350_7.trans w336
                have w365 : dt351 79 17 = dt241 79 17 := h350_8.trans w337
                have w366 : dt351 79 20 = dt241 79 20 := h350_9.trans w338
                obtain ⟨j367, ej368, hc369⟩ := RSX_1 h350_0 (by decide)
                have hp370 : (gT (KF 1 b n) (VF b n)) i = (gP (KF 1 b n) (VF b n) 600) j367 := hp343.trans ((show (fun i => gB (gU (KF 1 b n) i) (gP (KF 1 b n) (VF b n) 600)) (gq + 1) = gB ((gU (KF 1 b n)) (gq + 1)) (gP (KF 1 b n) (VF b n) 600) by rfl).trans (by rw [ej368]; exact gB_0))
                have hi371 : j367 ≤ t := by have z := gU_M (K := (KF 1 b n)) (i := (gq + 1)) hz; rw [ej368] at z; have y := z rfl; simp only at y; (first | omega | (have z_ := unhid u4_; omega))
                clear cr344 cb345 cd345 cv346 ck347
                have cr372 := hid (CUR_R hc369 (.inr rfl))
                have cd373 := CUR_d (hc369)
                have cb373 := hid (CUR_b hc369)
                have cv374 := hid (CUR_v hc369)
                have ck375 := hid (KZ_lt (i := j367) hz)
                have c1376 := (hc369).1
                have ci377 := hi371
                clear h350_4 w332 h350_5 w333 h350_6 h350_7 w336 h350_8 w337 h350_9 w338
                refine go_toq PM166 (k := 4) (pc' := 94) (L' := [some (.inr (.inr (some 79))), some (.inl 0), none]) (st' := [.inl 0, .inl 9, .inr (.inr (some 79))]) (w' := (SH, dt351)) rfl ?_
                have u5_ := hid (And.intro (unhid c256) (And.intro (unhid c326) (And.intro (unhid cr372) (And.intro (unhid cb373) (And.intro (unhid cv374) (unhid ck375))))))
                refine go_callq PM166 PM163 (Q' := _) rfl rfl rfl rfl (sp_X6_lay_g L xs sio (d + 7) dt351 hI352  9 ⟨by decide, by decide⟩ 0 ⟨by decide, by decide⟩ (by first | exact True.intro | with_reducible assumption | exact unhid (by with_reducible assumption) | rfl | (first | omega | (have z_ := unhid u5_; omega)) | trivial)) ?_
                rintro _ _ ⟨dt379, rfl, hI380, hF381, h378⟩
                refine ⟨rfl, ?_⟩
                have hF382 : Fr [79, 84] dt dt379 := Fr_tr hF354 hF381 (by decide)
                rcases h378 with ⟨rfl, h378⟩
                obtain ⟨h378_0, h378_1, h378_2, h378_3, h378_4, h378_5, h378_6, h378_7, h378_8, h378_9, h378_10⟩ := h378
                have w383 : dt379 79 2 = dt241 79 2 := h378_1.trans w361
                have w384 : dt379 79 9 = dt241 79 9 := h378_2.trans w362
                have w385 : dt379 79 10 = dt241 79 10 := h378_3.trans w363
                have w386 : dt379 79 12 = dt241 79 12 := h378_4.trans w364
                have w387 : dt379 79 13 = dt351 79 13 := h378_5
                have w388 : dt379 79 14 = dt351 79 14 := h378_6
                have w389 : dt379 79 15 = dt351 79 15 := h378_7
                have w390 : dt379 79 16 = dt351 79 16 := h378_8
                have w391 : dt379 79 17 = dt241 79 17 := h378_9.trans w365
                have w392 : dt379 79 20 = dt241 79 20 := h378_10.trans w366
                have hc393 : CUR 1 b n dt379 j367 := CUR_sm hc369 (by first | with_reducible assumption | exact unhid (by with_reducible assumption) | rfl | (first | omega | (have z_ := unhid u5_; omega))) (by first | with_reducible assumption | exact unhid (by with_reducible assumption) | rfl | (first | omega | (have z_ := unhid u5_; omega))) (by first | with_reducible assumption | exact unhid (by with_reducible assumption) | rfl | (first | omega | (have z_ := unhid u5_; omega))) (by first | with_reducible assumption | exact unhid (by with_reducible assumption) | rfl | (first | omega | (have z_ := unhid u5_; omega)))
                clear h378_1 w361 h378_2 w362 h378_3 h378_4 w364 h378_5 h378_6 h378_7 h378_8 h378_9 w365 h378_10 w366
                refine go_toq PM166 (k := 1) (pc' := 9) (L' := [some (.inr (.inr (some 79))), some (.inl 0), none]) (st' := []) (w' := (SH, dt379)) rfl ?_
                exact GO.le (ih_loop254 dt379 hI380 hF382 (by exact ⟨_, hp370, hc393, hi371⟩) (by first | with_reducible assumption | exact unhid (by with_reducible assumption) | (first | omega | (have z_ := unhid u5_; omega)) | exact ⟨_, hp370, hc393, hi371⟩) (by first | with_reducible assumption | exact unhid (by with_reducible assumption) | (first | omega | (have z_ := unhid u5_; omega)) | exact ⟨_, hp370, hc393, hi371⟩) (by first | with_reducible assumption | exact unhid (by with_reducible assumption) | (first | omega | (have z_ := unhid u5_; omega)) | exact ⟨_, hp370, hc393, hi371⟩) (by first | with_reducible assumption | exact unhid (by with_reducible assumption) | (first | omega | (have z_ := unhid u5_; omega)) | exact ⟨_, hp370, hc393, hi371⟩) (by first | with_reducible assumption | exact unhid (by with_reducible assumption) | (first | omega | (have z_ := unhid u5_; omega)) | exact ⟨_, hp370, hc393, hi371⟩) (by first | with_reducible assumption | exact unhid (by with_reducible assumption) | (first | omega | (have z_ := unhid u5_; omega)) | exact ⟨_, hp370, hc393, hi371⟩) (by first | with_reducible assumption | exact unhid (by with_reducible assumption) | (first | omega | (have z_ := unhid u5_; omega)) | exact ⟨_, hp370, hc393, hi371⟩) (by first | with_reducible assumption | exact unhid (by with_reducible assumption) | (first | omega | (have z_ := unhid u5_; omega)) | exact ⟨_, hp370, hc393, hi371⟩) (by first | with_reducible assumption | exact unhid (by with_reducible assumption) | (first | omega | (have z_ := unhid u5_; omega)) | exact ⟨_, hp370, hc393, hi371⟩) (by (first | omega | (have z_ := unhid u5_; omega)))) ⟨.inl rfl, .inr ⟨rfl, trivial⟩, .inl rfl, trivial⟩
            · skip
              refine go_toq PM166 (k := 4) (pc' := 46) (L' := [some (.inr (.inr (some 79))), some (.inl 1), none]) (st' := [.inr (.inr (some 79))]) (w' := (SH, dt241)) rfl ?_
              refine go_callq PM166 PM159 (Q' := _) rfl rfl rfl rfl (sp_X6_next0_p1 L xs sio (d + 1) dt241 hI242   (by first | exact True.intro | with_reducible assumption | exact unhid (by with_reducible assumption) | rfl | (first | omega | (have z0_ := unhid c256; omega)) | trivial) (by first | exact True.intro | with_reducible assumption | exact unhid (by with_reducible assumption) | rfl | (first | omega | (have z0_ := unhid c256; omega)) | trivial)) ?_
              rintro _ _ ⟨dt395, rfl, hI396, hF397, h394⟩
              refine ⟨rfl, ?_⟩
              have hF398 : Fr [79, 84] dt dt395 := Fr_tr hF243 hF397 (by decide)
              rcases h394 with ⟨rfl, h394⟩
              obtain ⟨h394_0, h394_1, h394_2, h394_3, h394_4, h394_5, h394_6, h394_7, h394_8⟩ := h394
              have w399 : dt395 79 2 = dt241 79 2 := h394_2
              have w400 : dt395 79 9 = dt241 79 9 := h394_3
              have w401 : dt395 79 10 = dt241 79 10 := h394_4
              have w402 : dt395 79 11 = dt241 79 11 := h394_5
              have w403 : dt395 79 12 = dt241 79 12 := h394_6
              have w404 : dt395 79 17 = dt241 79 17 := h394_7
              have w405 : dt395 79 20 = dt241 79 20 := h394_8
              have hq406 := h394_0
              rw [show dt241 85 = dt 85 from funext (hF243 85 (by decide)), show dt241 79 12 = dt 79 12 by first | with_reducible assumption | exact unhid (by with_reducible assumption) | (first | omega | (have z0_ := unhid c256; omega)), hbb, show (dt 79 12).toNat = n from (congrArg Int.toNat hnn).trans (Int.toNat_natCast n)] at hq406
              have hc407 : CUR 1 b n dt395 (gq + 1) := CUR_n hcq hq406
              have hi408 : gq + 1 ≤ t := by (have z0_ := unhid c256; omega)
              have av409 : dt241 79 15 + 1 ≤ dt241 79 13 := by (have z0_ := unhid c256; omega)
              have hp410 : (gT (KF 1 b n) (VF b n)) i = (fun i => gB (gD (KF 1 b n) (VF b n) i) (gP (KF 1 b n) (VF b n) 600)) (gq + 1) := hpq.trans (by show gP _ _ 600 gq = _; rw [gP_u hz (by (have z0_ := unhid c256; omega)) (by (have z0_ := unhid c256; omega))]; first | (rw [if_neg (by (have z0_ := unhid c256; omega)), if_pos (by (have z0_ := unhid c256; omega))]; done) | (rw [if_neg (by (have z0_ := unhid c256; omega)), if_pos (by (have z0_ := unhid c256; omega))]; rfl))
              clear crq cbq cvq ckq
              have cr411 := hid (CUR_R hc407 (.inr rfl))
              have cd412 := CUR_d (hc407)
              have cb412 := hid (CUR_b hc407)
              have cv413 := hid (CUR_v hc407)
              have ck414 := hid (KZ_lt (i := (gq + 1)) hz)
              have c1415 := (hc407).1
              have ci416 := hi408
              clear h394_2 h394_3 h394_4 h394_5 h394_6 h394_7 h394_8
              have r417 : 0 ≤ dt395 79 16 ∧ dt395 79 16 ≤ 9999 := InvC_get hI396 79 16 rfl rfl
              refine go_toq PM166 (k := 8) (pc' := 63) (L' := [some (.inr (.inr (some 79))), some (.inl 1), some (.inl (dt395 79 16))]) (st' := [.inl 9999, .inl 1, .inr (.inr (some 79))]) (w' := (SH, dt395)) rfl ?_
              have u6_ := hid (And.intro (unhid c256) (And.intro (unhid cr411) (And.intro (unhid cb412) (And.intro (unhid cv413) (unhid ck414)))))
              refine go_callq PM166 PM162 (Q' := _) rfl rfl rfl rfl (sp_X6_number_g1d L xs sio (d + 0) dt395 hI396 b n t (gq + 1) (by first | exact hbb | (rw [show dt395 85 = dt 85 from funext (hF398 85 (by decide)), show dt395 79 12 = dt 79 12 by first | with_reducible assumption | exact unhid (by with_reducible assumption) | (first | omega | (have z_ := unhid u6_; omega))]; exact hbb)) (by first | with_reducible assumption | exact unhid (by with_reducible assumption) | exact Eq.trans (by with_reducible assumption) hnn | (first | omega | (have z_ := unhid u6_; omega))) hz ht hc407 hi408 hn5  (by first | exact True.intro | with_reducible assumption | exact unhid (by with_reducible assumption) | rfl | (first | omega | (have z_ := unhid u6_; omega)) | trivial)) ?_
              rintro _ _ ⟨dt419, rfl, hI420, hF421, h418⟩
              refine ⟨rfl, ?_⟩
              have hF422 : Fr [79, 84] dt dt419 := Fr_tr hF398 hF421 (by decide)
              rcases h418 with ⟨rfl, h418⟩ | ⟨rfl, h418⟩
              · skip
                obtain ⟨h418_0, h418_1, h418_2, h418_3, h418_4⟩ := h418
                have w423 : dt419 79 2 = dt241 79 2 := h418_1.trans w399
                have w424 : dt419 79 9 = dt241 79 9 := h418_2.trans w400
                have w425 : dt419 79 10 = dt241 79 10 := h418_3.trans w401
                have w426 : dt419 79 12 = dt241 79 12 := h418_4.trans w403
                have fl427 := RSX_0 h418_0 rfl
                have fe428 : (gT (KF 1 b n) (VF b n)) i = (gD (KF 1 b n) (VF b n)) (gq + 1) := hp410.trans ((show (fun i => gB (gD (KF 1 b n) (VF b n) i) (gP (KF 1 b n) (VF b n) 600)) (gq + 1) = gB ((gD (KF 1 b n) (VF b n)) (gq + 1)) (gP (KF 1 b n) (VF b n) 600) by rfl).trans (gB_no fl427.1))
                clear h418_1 w399 h418_2 w400 h418_3 h418_4 w403
                refine go_retq PM166 (k := 2) (r := some (.inl 0)) (w1 := (SH, dt419)) rfl ?_
                exact ⟨dt419, rfl, hI420, hF422, (Or.inl ⟨rfl, ⟨by exact RSX_f fe428 fl427 (by first | rfl | with_reducible assumption | exact unhid (by with_reducible assumption) | (first | omega | (have z_ := unhid u6_; omega))) (by first | rfl | with_reducible assumption | exact unhid (by with_reducible assumption) | (first | omega | (have z_ := unhid u6_; omega))), by first | exact True.intro | with_reducible assumption | exact unhid (by with_reducible assumption) | rfl | (first | omega | (have z_ := unhid u6_; omega)) | trivial, by first | exact True.intro | with_reducible assumption | exact unhid (by with_reducible assumption) | rfl | (first | omega | (have z_ := unhid u6_; omega)) | trivial, by first | exact True.intro | with_reducible assumption | exact unhid (by with_reducible assumption) | rfl | (first | omega | (have z_ := unhid u6_; omega)) | trivial, by first | exact True.intro | with_reducible assumption | exact unhid (by with_reducible assumption) | rfl | (first | omega | (have z_ := unhid u6_; omega)) | trivial⟩⟩)⟩
              · skip
                obtain ⟨h418_0, h418_1, h418_2, h418_3, h418_4, h418_5, h418_6, h418_7, h418_8, h418_9, h418_10⟩ := h418
                have w429 : dt419 79 2 = dt241 79 2 := h418_4.trans w399
                have w430 : dt419 79 9 = dt241 79 9 := h418_5.trans w400
                have w431 : dt419 79 10 = dt241 79 10 := h418_6.trans w401
                have w432 : dt419 79 11 = dt241 79 11 := h418_7.trans w402
                have w433 : dt419 79 12 = dt241 79 12 := h418_8.trans w403
                have w434 : dt419 79 17 = dt241 79 17 := h418_9.trans w404
                have w435 : dt419 79 20 = dt241 79 20 := h418_10.trans w405
                obtain ⟨j436, ej437, hc438⟩ := RSX_1 h418_0 (by decide)
                have hp439 : (gT (KF 1 b n) (VF b n)) i = (gP (KF 1 b n) (VF b n) 600) j436 := hp410.trans ((show (fun i => gB (gD (KF 1 b n) (VF b n) i) (gP (KF 1 b n) (VF b n) 600)) (gq + 1) = gB ((gD (KF 1 b n) (VF b n)) (gq + 1)) (gP (KF 1 b n) (VF b n) 600) by rfl).trans (by rw [ej437]; exact gB_0))
                have hi440 : j436 ≤ t := by have z := gD_M (K := (KF 1 b n)) (V := (VF b n)) (i := (gq + 1)) hz; rw [ej437] at z; have y := z rfl; simp only at y; (first | omega | (have z_ := unhid u6_; omega))
                clear cr411 cb412 cd412 cv413 ck414
                have cr441 := hid (CUR_R hc438 (.inr rfl))
                have cd442 := CUR_d (hc438)
                have cb442 := hid (CUR_b hc438)
                have cv443 := hid (CUR_v hc438)
                have ck444 := hid (KZ_lt (i := j436) hz)
                have c1445 := (hc438).1
                have ci446 := hi440
                clear h418_4 w399 h418_5 w400 h418_6 h418_7 h418_8 w403 h418_9 w404 h418_10 w405
                refine go_toq PM166 (k := 4) (pc' := 75) (L' := [some (.inr (.inr (some 79))), some (.inl 1), some (.inl (dt395 79 16))]) (st' := [.inl (dt395 79 16), .inl 10, .inr (.inr (some 79))]) (w' := (SH, dt419)) rfl ?_
                have u7_ := hid (And.intro (unhid c256) (And.intro (unhid cr441) (And.intro (unhid cb442) (And.intro (unhid cv443) (unhid ck444)))))
                refine go_callq PM166 PM163 (Q' := _) rfl rfl rfl rfl (sp_X6_lay_g L xs sio (d + 7) dt419 hI420  10 ⟨by decide, by decide⟩ (dt395 79 16) (by first | exact bnd r417 (by decide) (by decide) | exact ⟨by (first | omega | (have z_ := unhid u7_; omega)), by (first | omega | (have z_ := unhid u7_; omega))⟩) (by first | exact True.intro | with_reducible assumption | exact unhid (by with_reducible assumption) | rfl | (first | omega | (have z_ := unhid u7_; omega)) | trivial)) ?_
                rintro _ _ ⟨dt448, rfl, hI449, hF450, h447⟩
                refine ⟨rfl, ?_⟩
                have hF451 : Fr [79, 84] dt dt448 := Fr_tr hF422 hF450 (by decide)
                rcases h447 with ⟨rfl, h447⟩
                obtain ⟨h447_0, h447_1, h447_2, h447_3, h447_4, h447_5, h447_6, h447_7, h447_8, h447_9, h447_10⟩ := h447
                have w452 : dt448 79 2 = dt241 79 2 := h447_1.trans w429
                have w453 : dt448 79 9 = dt241 79 9 := h447_2.trans w430
                have w454 : dt448 79 10 = dt241 79 10 := h447_3.trans w431
                have w455 : dt448 79 12 = dt241 79 12 := h447_4.trans w433
                have w456 : dt448 79 13 = dt419 79 13 := h447_5
                have w457 : dt448 79 14 = dt419 79 14 := h447_6
                have w458 : dt448 79 15 = dt419 79 15 := h447_7
                have w459 : dt448 79 16 = dt419 79 16 := h447_8
                have w460 : dt448 79 17 = dt241 79 17 := h447_9.trans w434
                have w461 : dt448 79 20 = dt241 79 20 := h447_10.trans w435
                have hc462 : CUR 1 b n dt448 j436 := CUR_sm hc438 (by first | with_reducible assumption | exact unhid (by with_reducible assumption) | rfl | (first | omega | (have z_ := unhid u7_; omega))) (by first | with_reducible assumption | exact unhid (by with_reducible assumption) | rfl | (first | omega | (have z_ := unhid u7_; omega))) (by first | with_reducible assumption | exact unhid (by with_reducible assumption) | rfl | (first | omega | (have z_ := unhid u7_; omega))) (by first | with_reducible assumption | exact unhid (by with_reducible assumption) | rfl | (first | omega | (have z_ := unhid u7_; omega)))
                clear h447_1 w429 h447_2 w430 h447_3 h447_4 w433 h447_5 h447_6 h447_7 h447_8 h447_9 w434 h447_10 w435
                refine go_toq PM166 (k := 2) (pc' := 9) (L' := [some (.inr (.inr (some 79))), some (.inl 1), some (.inl (dt395 79 16))]) (st' := []) (w' := (SH, dt448)) rfl ?_
                exact GO.le (ih_loop254 dt448 hI449 hF451 (by exact ⟨_, hp439, hc462, hi440⟩) (by first | with_reducible assumption | exact unhid (by with_reducible assumption) | (first | omega | (have z_ := unhid u7_; omega)) | exact ⟨_, hp439, hc462, hi440⟩) (by first | with_reducible assumption | exact unhid (by with_reducible assumption) | (first | omega | (have z_ := unhid u7_; omega)) | exact ⟨_, hp439, hc462, hi440⟩) (by first | with_reducible assumption | exact unhid (by with_reducible assumption) | (first | omega | (have z_ := unhid u7_; omega)) | exact ⟨_, hp439, hc462, hi440⟩) (by first | with_reducible assumption | exact unhid (by with_reducible assumption) | (first | omega | (have z_ := unhid u7_; omega)) | exact ⟨_, hp439, hc462, hi440⟩) (by first | with_reducible assumption | exact unhid (by with_reducible assumption) | (first | omega | (have z_ := unhid u7_; omega)) | exact ⟨_, hp439, hc462, hi440⟩) (by first | with_reducible assumption | exact unhid (by with_reducible assumption) | (first | omega | (have z_ := unhid u7_; omega)) | exact ⟨_, hp439, hc462, hi440⟩) (by first | with_reducible assumption | exact unhid (by with_reducible assumption) | (first | omega | (have z_ := unhid u7_; omega)) | exact ⟨_, hp439, hc462, hi440⟩) (by first | with_reducible assumption | exact unhid (by with_reducible assumption) | (first | omega | (have z_ := unhid u7_; omega)) | exact ⟨_, hp439, hc462, hi440⟩) (by first | with_reducible assumption | exact unhid (by with_reducible assumption) | (first | omega | (have z_ := unhid u7_; omega)) | exact ⟨_, hp439, hc462, hi440⟩) (by (first | omega | (have z_ := unhid u7_; omega)))) ⟨.inl rfl, .inr ⟨rfl, trivial⟩, .inr ⟨rfl, trivial⟩, trivial⟩
    have u8_ := hid (And.intro (unhid cr26) (And.intro (unhid cb27) (And.intro (unhid cv28) (unhid ck29))))
    exact GO.le (loop254 _ dt5 hI6 hF8 (by exact ⟨_, hp24, hc23, hi25⟩) (by first | with_reducible assumption | exact unhid (by with_reducible assumption) | (first | omega | (have z_ := unhid u8_; omega)) | exact ⟨_, hp24, hc23, hi25⟩) (by first | with_reducible assumption | exact unhid (by with_reducible assumption) | (first | omega | (have z_ := unhid u8_; omega)) | exact ⟨_, hp24, hc23, hi25⟩) (by first | with_reducible assumption | exact unhid (by with_reducible assumption) | (first | omega | (have z_ := unhid u8_; omega)) | exact ⟨_, hp24, hc23, hi25⟩) (by first | with_reducible assumption | exact unhid (by with_reducible assumption) | (first | omega | (have z_ := unhid u8_; omega)) | exact ⟨_, hp24, hc23, hi25⟩) (by first | with_reducible assumption | exact unhid (by with_reducible assumption) | (first | omega | (have z_ := unhid u8_; omega)) | exact ⟨_, hp24, hc23, hi25⟩) (by first | with_reducible assumption | exact unhid (by with_reducible assumption) | (first | omega | (have z_ := unhid u8_; omega)) | exact ⟨_, hp24, hc23, hi25⟩) (by first | with_reducible assumption | exact unhid (by with_reducible assumption) | (first | omega | (have z_ := unhid u8_; omega)) | exact ⟨_, hp24, hc23, hi25⟩) (by first | with_reducible assumption | exact unhid (by with_reducible assumption) | (first | omega | (have z_ := unhid u8_; omega)) | exact ⟨_, hp24, hc23, hi25⟩) (by first | with_reducible assumption | exact unhid (by with_reducible assumption) | (first | omega | (have z_ := unhid u8_; omega)) | exact ⟨_, hp24, hc23, hi25⟩) (Nat.lt_succ_self _)) ⟨.inl rfl, .inl rfl, .inl rfl, trivial⟩
