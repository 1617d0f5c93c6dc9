set_option maxHeartbeats 1500000 in
set_option maxRecDepth 20000 in
theorem sp_X6_sumUp_g (L : Nat) (xs : Nat → Int32) (sio : Option Nat) (d : Nat) (dt : Nat → Nat → Int) (hI : InvC dt) (b : Nat → Int) (n t i : Nat) (hbb : mB (dt 85) (dt 79 12) = b) (hnn : dt 79 12 = (n : Int)) (hz : KZ (KF 1 b n) t) (ht : t ≤ 500) (hc : CUR 1 b n dt i) (hi : i ≤ t) (hn5 : n ≤ 500)  (h_p0 : dt 79 9 = 1) (h_p1 : dt 79 11 ≤ dt 79 15) : GO (am_XX L xs sio) (d + 9) 165 0 [some (.inr (.inr (some 79))), none] [] (SH, dt) (fun r w2 => ∃ dt2 : Nat → Nat → Int, w2 = (SH, dt2) ∧ InvC dt2 ∧ Fr [79, 84] dt dt2 ∧ ((r = some (.inl 0) ∧ (RSX 1 b n i dt2 0 ((gE (KF 1 b n) (VF b n)) i)) ∧ (dt2 79 2 = dt 79 2) ∧ (dt2 79 9 = dt 79 9) ∧ (dt2 79 10 = dt 79 10) ∧ (dt2 79 12 = dt 79 12)) ∨ (r = some (.inl 1) ∧ (RSX 1 b n i dt2 1 ((gE (KF 1 b n) (VF b n)) i)) ∧ (dt 79 15 + dt2 79 11 ≤ dt2 79 15 + dt 79 11) ∧ (dt 79 11 + 1 ≤ dt2 79 11) ∧ (dt2 79 15 ≤ 500) ∧ (RXD dt dt2 ((rE (KF 1 b n) (VF b n)) i)) ∧ (dt2 79 2 = dt 79 2) ∧ (dt2 79 9 = dt 79 9) ∧ (dt2 79 10 = dt 79 10) ∧ (dt2 79 12 = dt 79 12) ∧ (dt2 79 17 = dt 79 17) ∧ (dt2 79 20 = dt 79 20)))) := by
  have hF : Fr [79, 84] dt dt := Fr_refl
  have r1 : 0 ≤ dt 79 15 ∧ dt 79 15 ≤ 500 := InvC_get hI 79 15 rfl rfl
  have r2 : 0 ≤ dt 79 11 ∧ dt 79 11 ≤ 510 := InvC_get hI 79 11 rfl rfl
  have r3 : 0 ≤ dt 79 10 ∧ dt 79 10 ≤ 24 := InvC_get hI 79 10 rfl rfl
  have cr0 := hid (CUR_R hc (.inr rfl))
  have cd0 := CUR_d (hc)
  have cb0 := hid (CUR_b hc)
  have cv0 := hid (CUR_v hc)
  have ck0 := hid (KZ_lt (i := i) hz)
  have c10 := hc.1
  refine go_toq PM165 (k := 1) (pc' := 1) (L' := [some (.inr (.inr (some 79))), none]) (st' := [.inr (.inr (some 79))]) (w' := (SH, dt)) rfl ?_
  have u1_ := hid (And.intro (unhid cr0) (And.intro (unhid cb0) (And.intro (unhid cv0) (unhid ck0))))
  refine go_callq PM165 PM166 (Q' := _) rfl rfl rfl rfl (sp_X6_product_g L xs sio (d + 0) dt hI b n t i (by first | exact hbb | (rw [show dt 85 = dt 85 from funext (hF 85 (by decide)), show dt 79 12 = dt 79 12 by first | with_reducible assumption | exact unhid (by with_reducible assumption) | fail]; exact hbb)) (by first | with_reducible assumption | exact unhid (by with_reducible assumption) | exact Eq.trans (by with_reducible assumption) hnn | fail) hz ht hc hi hn5  (by first | exact True.intro | with_reducible assumption | exact unhid (by with_reducible assumption) | rfl | fail | trivial) (by first | exact True.intro | with_reducible assumption | exact unhid (by with_reducible assumption) | rfl | fail | trivial)) ?_
  rintro _ _ ⟨dt5, rfl, hI6, hF7, h4⟩
  refine ⟨rfl, ?_⟩
  have hF8 : Fr [79, 84] dt dt5 := Fr_tr hF hF7 (by decide)
  rcases h4 with ⟨rfl, h4⟩ | ⟨rfl, h4⟩
  · skip
    obtain ⟨h4_0, h4_1, h4_2, h4_3, h4_4⟩ := h4
    have w9 : dt5 79 2 = dt 79 2 := h4_1
    have w10 : dt5 79 9 = dt 79 9 := h4_2
    have w11 : dt5 79 10 = dt 79 10 := h4_3
    have w12 : dt5 79 12 = dt 79 12 := h4_4
    have fl13 := RSX_0 h4_0 rfl
    have fe14 : (gE (KF 1 b n) (VF b n)) i = (gT (KF 1 b n) (VF b n)) i := (rfl : (gE (KF 1 b n) (VF b n)) i = (gE (KF 1 b n) (VF b n)) i).trans ((show (gE (KF 1 b n) (VF b n)) i = gB ((gT (KF 1 b n) (VF b n)) i) (gQ (KF 1 b n) (VF b n) 600) by exact gE_PQ hz (by omega)).trans (gB_no fl13.1))
    clear h4_1 h4_2 h4_3 h4_4
    refine go_retq PM165 (k := 2) (r := some (.inl 0)) (w1 := (SH, dt5)) rfl ?_
    exact ⟨dt5, rfl, hI6, hF8, (Or.inl ⟨rfl, ⟨by exact RSX_f fe14 fl13 (by first | rfl | with_reducible assumption | exact unhid (by with_reducible assumption) | fail) (by first | rfl | with_reducible assumption | exact unhid (by with_reducible assumption) | fail), by first | exact True.intro | with_reducible assumption | exact unhid (by with_reducible assumption) | rfl | fail | trivial, by first | exact True.intro | with_reducible assumption | exact unhid (by with_reducible assumption) | rfl | fail | trivial, by first | exact True.intro | with_reducible assumption | exact unhid (by with_reducible assumption) | rfl | fail | trivial, by first | exact True.intro | with_reducible assumption | exact unhid (by with_reducible assumption) | rfl | fail | trivial⟩⟩)⟩
  · skip
    obtain ⟨h4_0, h4_1, h4_2, h4_3, h4_4, h4_5, h4_6, h4_7, h4_8, h4_9, h4_10⟩ := h4
    have w15 : dt5 79 2 = dt 79 2 := h4_5
    have w16 : dt5 79 9 = dt 79 9 := h4_6
    have w17 : dt5 79 10 = dt 79 10 := h4_7
    have w18 : dt5 79 12 = dt 79 12 := h4_8
    have w19 : dt5 79 17 = dt 79 17 := h4_9
    have w20 : dt5 79 20 = dt 79 20 := h4_10
    obtain ⟨j21, ej22, hc23⟩ := RSX_1 h4_0 (by decide)
    have hp24 : (gE (KF 1 b n) (VF b n)) i = (gQ (KF 1 b n) (VF b n) 600) j21 := (rfl : (gE (KF 1 b n) (VF b n)) i = (gE (KF 1 b n) (VF b n)) i).trans ((show (gE (KF 1 b n) (VF b n)) i = gB ((gT (KF 1 b n) (VF b n)) i) (gQ (KF 1 b n) (VF b n) 600) by exact gE_PQ hz (by (have z_ := unhid u1_; omega))).trans (by rw [ej22]; exact gB_0))
    have hi25 : j21 ≤ t := by have z := gT_M' (K := (KF 1 b n)) (V := (VF b n)) (i := i) hz; rw [ej22] at z; have y := z rfl; simp only at y; omega
    have Q26 : RQ (rE (KF 1 b n) (VF b n)) (rQ (KF 1 b n) (VF b n) 600) dt dt5 i j21 := RQ_st RQ_0 (by omega) h4_4 (by show rT _ _ i ++ rQ _ _ 600 (gT _ _ i).2 = _; rw [ej22])
    clear cr0 cb0 cd0 cv0 ck0
    have cr27 := hid (CUR_R hc23 (.inr rfl))
    have cd28 := CUR_d (hc23)
    have cb28 := hid (CUR_b hc23)
    have cv29 := hid (CUR_v hc23)
    have ck30 := hid (KZ_lt (i := j21) hz)
    have c131 := (hc23).1
    have ci32 := hi25
    clear h4_5 h4_6 h4_7 h4_8 h4_9 h4_10
    refine go_toq PM165 (k := 1) (pc' := 9) (L' := [some (.inr (.inr (some 79))), none]) (st' := []) (w' := (SH, dt5)) rfl ?_
    have loop262 : ∀ (k_ : Nat) (dt249 : Nat → Nat → Int) (hI250 : InvC dt249) (hF251 : Fr [79, 84] dt dt249) (i252 : ∃ q : Nat, (gE (KF 1 b n) (VF b n)) i = (gQ (KF 1 b n) (VF b n) 600) q ∧ CUR 1 b n dt249 q ∧ q ≤ t ∧ RQ (rE (KF 1 b n) (VF b n)) (rQ (KF 1 b n) (VF b n) 600) dt dt249 i q) (i253 : dt 79 15 + dt249 79 11 ≤ dt249 79 15 + dt 79 11) (i254 : dt 79 11 + 1 ≤ dt249 79 11) (i255 : dt249 79 15 ≤ 500) (i256 : dt249 79 2 = dt 79 2) (i257 : dt249 79 9 = dt 79 9) (i258 : dt249 79 10 = dt 79 10) (i259 : dt249 79 12 = dt 79 12) (i260 : dt249 79 17 = dt 79 17) (i261 : dt249 79 20 = dt 79 20), (502 - dt249 79 15).toNat < k_ → GO (am_XX L xs sio) (d + 9) 165 9 [some (.inr (.inr (some 79))), none] [] (SH, dt249) (fun r w2 => ∃ dt2 : Nat → Nat → Int, w2 = (SH, dt2) ∧ InvC dt2 ∧ Fr [79, 84] dt dt2 ∧ ((r = some (.inl 0) ∧ (RSX 1 b n i dt2 0 ((gE (KF 1 b n) (VF b n)) i)) ∧ (dt2 79 2 = dt 79 2) ∧ (dt2 79 9 = dt 79 9) ∧ (dt2 79 10 = dt 79 10) ∧ (dt2 79 12 = dt 79 12)) ∨ (r = some (.inl 1) ∧ (RSX 1 b n i dt2 1 ((gE (KF 1 b n) (VF b n)) i)) ∧ (dt 79 15 + dt2 79 11 ≤ dt2 79 15 + dt 79 11) ∧ (dt 79 11 + 1 ≤ dt2 79 11) ∧ (dt2 79 15 ≤ 500) ∧ (RXD dt dt2 ((rE (KF 1 b n) (VF b n)) i)) ∧ (dt2 79 2 = dt 79 2) ∧ (dt2 79 9 = dt 79 9) ∧ (dt2 79 10 = dt 79 10) ∧ (dt2 79 12 = dt 79 12) ∧ (dt2 79 17 = dt 79 17) ∧ (dt2 79 20 = dt 79 20)))) := by
      intro k_
      induction k_ with
      | zero => intro dt249 hI250 hF251 i252 i253 i254 i255 i256 i257 i258 i259 i260 i261 hm; exact absurd hm (Nat.not_lt_zero _)
      | succ k_ ih_loop262 =>
        intro dt249 hI250 hF251 i252 i253 i254 i255 i256 i257 i258 i259 i260 i261 hm
        clear cr27 cb28 cd28 cv29 ck30
        obtain ⟨gq, hpq, hcq, hiq, hQq⟩ := i252
        have crq := CUR_R hcq (.inr rfl)
        have cbq := CUR_b hcq
        have cvq := CUR_v hcq
        have ckq := KZ_lt (i := gq) hz
        have c1q := hcq.1
        have r263 : (-2147483648) ≤ dt249 79 14 ∧ dt249 79 14 ≤ 2147483647 := InvC_get hI250 79 14 rfl rfl
        refine go_ifq PM165 (k := 3) (p1 := 29) (p2 := 19) (L' := [some (.inr (.inr (some 79))), none]) (st' := []) (w' := (SH, dt249)) rfl (c_eq (a := dt249 79 14) (b := 143) (by first | exact bnd r263 (by decide) (by decide) | exact ⟨by fail, by fail⟩) ⟨by decide, by decide⟩) (fun c264 => ?_) (fun c264 => ?_)
        · skip
          refine go_ifq PM165 (k := 3) (p1 := 44) (p2 := 39) (L' := [some (.inr (.inr (some 79))), none]) (st' := []) (w' := (SH, dt249)) rfl (c_ne (a := dt249 79 14) (b := 143) (by first | exact bnd r263 (by decide) (by decide) | exact ⟨by fail, by fail⟩) ⟨by decide, by decide⟩) (fun c265 => ?_) (fun c265 => ?_)
          · skip
            replace c265 := hid c265
            refine go_toq PM165 (k := 3) (pc' := 48) (L' := [some (.inr (.inr (some 79))), some (.inl 8)]) (st' := [.inr (.inr (some 79))]) (w' := (SH, dt249)) rfl ?_
            refine go_callq PM165 PM159 (Q' := _) rfl rfl rfl rfl (sp_X6_next0_p1 L xs sio (d + 2) dt249 hI250   (by first | exact True.intro | with_reducible assumption | exact unhid (by with_reducible assumption) | rfl | omega | trivial) (by first | exact True.intro | with_reducible assumption | exact unhid (by with_reducible assumption) | rfl | omega | trivial)) ?_
            rintro _ _ ⟨dt267, rfl, hI268, hF269, h266⟩
            refine ⟨rfl, ?_⟩
            have hF270 : Fr [79, 84] dt dt267 := Fr_tr hF251 hF269 (by decide)
            rcases h266 with ⟨rfl, h266⟩
            obtain ⟨h266_0, h266_1, h266_2, h266_3, h266_4, h266_5, h266_6, h266_7, h266_8⟩ := h266
            have w271 : dt267 79 2 = dt249 79 2 := h266_2
            have w272 : dt267 79 9 = dt249 79 9 := h266_3
            have w273 : dt267 79 10 = dt249 79 10 := h266_4
            have w274 : dt267 79 11 = dt249 79 11 := h266_5
            have w275 : dt267 79 12 = dt249 79 12 := h266_6
            have w276 : dt267 79 17 = dt249 79 17 := h266_7
            have w277 : dt267 79 20 = dt249 79 20 := h266_8
            have hq278 := h266_0
            rw [show dt249 85 = dt 85 from funext (hF251 85 (by decide)), show dt249 79 12 = dt 79 12 by first | with_reducible assumption | exact unhid (by with_reducible assumption) | fail, hbb, show (dt 79 12).toNat = n from (congrArg Int.toNat hnn).trans (Int.toNat_natCast n)] at hq278
            have hc279 : CUR 1 b n dt267 (gq + 1) := CUR_n hcq hq278
            have hi280 : gq + 1 ≤ t := by (have z0_ := unhid c265; omega)
            have av281 : dt249 79 15 + 1 ≤ dt249 79 13 := by (have z0_ := unhid c265; omega)
            have kk_282 : KF 1 b n gq = 45 := by (have z0_ := unhid c265; omega)
            have hp283 : (gE (KF 1 b n) (VF b n)) i = (fun i => gB (gT (KF 1 b n) (VF b n) i) (gQ (KF 1 b n) (VF b n) 600)) (gq + 1) := hpq.trans (by show gQ _ _ 600 gq = _; rw [gQ_u hz (by (have z0_ := unhid c265; omega)) (by (have z0_ := unhid c265; omega))]; first | (rw [if_pos (by (have z0_ := unhid c265; omega))]; done) | (rw [if_pos (by (have z0_ := unhid c265; omega))]; rfl))
            clear crq cbq cvq ckq
            have cr284 := hid (CUR_R hc279 (.inr rfl))
            have cd285 := CUR_d (hc279)
            have cb285 := hid (CUR_b hc279)
            have cv286 := hid (CUR_v hc279)
            have ck287 := hid (KZ_lt (i := (gq + 1)) hz)
            have c1288 := (hc279).1
            have ci289 := hi280
            clear h266_2 h266_3 h266_4 h266_5 h266_6 h266_7 h266_8
            refine go_toq PM165 (k := 1) (pc' := 52) (L' := [some (.inr (.inr (some 79))), some (.inl 8)]) (st' := [.inr (.inr (some 79))]) (w' := (SH, dt267)) rfl ?_
            refine go_callq PM165 PM166 (Q' := _) rfl rfl rfl rfl (sp_X6_product_g L xs sio (d + 0) dt267 hI268 b n t (gq + 1) (by first | exact hbb | (rw [show dt267 85 = dt 85 from funext (hF270 85 (by decide)), show dt267 79 12 = dt 79 12 by first | with_reducible assumption | exact unhid (by with_reducible assumption) | omega]; exact hbb)) (by first | with_reducible assumption | exact unhid (by with_reducible assumption) | exact Eq.trans (by with_reducible assumption) hnn | omega) hz ht hc279 hi280 hn5  (by first | exact True.intro | with_reducible assumption | exact unhid (by with_reducible assumption) | rfl | omega | trivial) (by first | exact True.intro | with_reducible assumption | exact unhid (by with_reducible assumption) | rfl | omega | trivial)) ?_
            rintro _ _ ⟨dt291, rfl, hI292, hF293, h290⟩
            refine ⟨rfl, ?_⟩
            have hF294 : Fr [79, 84] dt dt291 := Fr_tr hF270 hF293 (by decide)
            rcases h290 with ⟨rfl, h290⟩ | ⟨rfl, h290⟩
            · skip
              obtain ⟨h290_0, h290_1, h290_2, h290_3, h290_4⟩ := h290
              have w295 : dt291 79 2 = dt249 79 2 := h290_1.trans w271
              have w296 : dt291 79 9 = dt249 79 9 := h290_2.trans w272
              have w297 : dt291 79 10 = dt249 79 10 := h290_3.trans w273
              have w298 : dt291 79 12 = dt249 79 12 := h290_4.trans w275
              have fl299 := RSX_0 h290_0 rfl
              have fe300 : (gE (KF 1 b n) (VF b n)) i = (gT (KF 1 b n) (VF b n)) (gq + 1) := hp283.trans ((show (fun i => gB (gT (KF 1 b n) (VF b n) i) (gQ (KF 1 b n) (VF b n) 600)) (gq + 1) = gB ((gT (KF 1 b n) (VF b n)) (gq + 1)) (gQ (KF 1 b n) (VF b n) 600) by rfl).trans (gB_no fl299.1))
              clear h290_1 w271 h290_2 w272 h290_3 h290_4 w275
              refine go_retq PM165 (k := 2) (r := some (.inl 0)) (w1 := (SH, dt291)) rfl ?_
              exact ⟨dt291, rfl, hI292, hF294, (Or.inl ⟨rfl, ⟨by exact RSX_f fe300 fl299 (by first | rfl | with_reducible assumption | exact unhid (by with_reducible assumption) | fail) (by first | rfl | with_reducible assumption | exact unhid (by with_reducible assumption) | fail), by first | exact True.intro | with_reducible assumption | exact unhid (by with_reducible assumption) | rfl | omega | trivial, by first | exact True.intro | with_reducible assumption | exact unhid (by with_reducible assumption) | rfl | omega | trivial, by first | exact True.intro | with_reducible assumption | exact unhid (by with_reducible assumption) | rfl | omega | trivial, by first | exact True.intro | with_reducible assumption | exact unhid (by with_reducible assumption) | rfl | omega | trivial⟩⟩)⟩
            · skip
              obtain ⟨h290_0, h290_1, h290_2, h290_3, h290_4, h290_5, h290_6, h290_7, h290_8, h290_9, h290_10⟩ := h290
              have w301 : dt291 79 2 = dt249 79 2 := h290_5.trans w271
              have w302 : dt291 79 9 = dt249 79 9 := h290_6.trans w272
              have w303 : dt291 79 10 = dt249 79 10 := h290_7.trans w273
              have w304 : dt291 79 12 = dt249 79 12 := h290_8.trans w275
              have w305 : dt291 79 17 = dt249 79 17 := h290_9.trans w276
              have w306 : dt291 79 20 = dt249 79 20 := h290_10.trans w277
              obtain ⟨j307, ej308, hc309⟩ := RSX_1 h290_0 (by decide)
              have hp310 : (gE (KF 1 b n) (VF b n)) i = (gQ (KF 1 b n) (VF b n) 600) j307 := hp283.trans ((show (fun i => gB (gT (KF 1 b n) (VF b n) i) (gQ (KF 1 b n) (VF b n) 600)) (gq + 1) = gB ((gT (KF 1 b n) (VF b n)) (gq + 1)) (gQ (KF 1 b n) (VF b n) 600) by rfl).trans (by rw [ej308]; exact gB_0))
              have hi311 : j307 ≤ t := by have z := gT_M' (K := (KF 1 b n)) (V := (VF b n)) (i := (gq + 1)) hz; rw [ej308] at z; have y := z rfl; simp only at y; omega
              have Q312 : RQ (rE (KF 1 b n) (VF b n)) (fun q_ => [if (KF 1 b n) gq = 43 then -1 else -2] ++ rQ (KF 1 b n) (VF b n) 600 q_) dt dt291 i j307 := RQ_st hQq (by omega) (RXD_l (by omega) (fun j => hF269 84 (by decide) j) h290_4) (by rw [rQ_u hz (by omega), if_pos ⟨by omega, by rw [ej308]⟩, ej308])
              clear cr284 cb285 cd285 cv286 ck287
              have cr313 := hid (CUR_R hc309 (.inr rfl))
              have cd314 := CUR_d (hc309)
              have cb314 := hid (CUR_b hc309)
              have cv315 := hid (CUR_v hc309)
              have ck316 := hid (KZ_lt (i := j307) hz)
              have c1317 := (hc309).1
              have ci318 := hi311
              clear h290_5 w271 h290_6 w272 h290_7 h290_8 w275 h290_9 w276 h290_10 w277
              refine go_toq PM165 (k := 4) (pc' := 63) (L' := [some (.inr (.inr (some 79))), some (.inl 8)]) (st' := [.inl 0, .inl 8, .inr (.inr (some 79))]) (w' := (SH, dt291)) rfl ?_
              refine go_callq PM165 PM163 (Q' := _) rfl rfl rfl rfl (sp_X6_lay_g L xs sio (d + 8) dt291 hI292  8 ⟨by decide, by decide⟩ 0 ⟨by decide, by decide⟩ (by first | exact True.intro | with_reducible assumption | exact unhid (by with_reducible assumption) | rfl | omega | trivial) (by first | exact True.intro | with_reducible assumption | exact unhid (by with_reducible assumption) | rfl | omega | trivial)) ?_
              rintro _ _ ⟨dt320, rfl, hI321, hF322, h319⟩
              refine ⟨rfl, ?_⟩
              have hF323 : Fr [79, 84] dt dt320 := Fr_tr hF294 hF322 (by decide)
              rcases h319 with ⟨rfl, h319⟩
              obtain ⟨h319_0, h319_1, h319_2, h319_3, h319_4, h319_5, h319_6, h319_7, h319_8, h319_9, h319_10, h319_11⟩ := h319
              have w324 : dt320 79 2 = dt249 79 2 := h319_2.trans w301
              have w325 : dt320 79 9 = dt249 79 9 := h319_3.trans w302
              have w326 : dt320 79 10 = dt249 79 10 := h319_4.trans w303
              have w327 : dt320 79 12 = dt249 79 12 := h319_5.trans w304
              have w328 : dt320 79 13 = dt291 79 13 := h319_6
              have w329 : dt320 79 14 = dt291 79 14 := h319_7
              have w330 : dt320 79 15 = dt291 79 15 := h319_8
              have w331 : dt320 79 16 = dt291 79 16 := h319_9
              have w332 : dt320 79 17 = dt249 79 17 := h319_10.trans w305
              have w333 : dt320 79 20 = dt249 79 20 := h319_11.trans w306
              have Q334 : RQ (rE (KF 1 b n) (VF b n)) (rQ (KF 1 b n) (VF b n) 600) dt dt320 i j307 := RQ_st Q312 (by omega) h319_1 (by show [_] ++ _ = stx 8 0 ++ _; first | (rw [if_pos (by (have z_ := unhid c265; omega))]; rfl) | (rw [if_neg (by omega)]; rfl))
              have hc335 : CUR 1 b n dt320 j307 := CUR_sm hc309 (by first | with_reducible assumption | exact unhid (by with_reducible assumption) | rfl | fail) (by first | with_reducible assumption | exact unhid (by with_reducible assumption) | rfl | fail) (by first | with_reducible assumption | exact unhid (by with_reducible assumption) | rfl | fail) (by first | with_reducible assumption | exact unhid (by with_reducible assumption) | rfl | fail)
              clear h319_2 w301 h319_3 w302 h319_4 h319_5 w304 h319_6 h319_7 h319_8 h319_9 h319_10 w305 h319_11 w306
              refine go_toq PM165 (k := 1) (pc' := 9) (L' := [some (.inr (.inr (some 79))), some (.inl 8)]) (st' := []) (w' := (SH, dt320)) rfl ?_
              exact GO.le (ih_loop262 dt320 hI321 hF323 (by exact ⟨_, hp310, hc335, hi311, Q334⟩) (by first | with_reducible assumption | exact unhid (by with_reducible assumption) | omega | exact ⟨_, hp310, hc335, hi311, Q334⟩) (by first | with_reducible assumption | exact unhid (by with_reducible assumption) | omega | exact ⟨_, hp310, hc335, hi311, Q334⟩) (by first | with_reducible assumption | exact unhid (by with_reducible assumption) | omega | exact ⟨_, hp310, hc335, hi311, Q334⟩) (by first | with_reducible assumption | exact unhid (by with_reducible assumption) | omega | exact ⟨_, hp310, hc335, hi311, Q334⟩) (by first | with_reducible assumption | exact unhid (by with_reducible assumption) | omega | exact ⟨_, hp310, hc335, hi311, Q334⟩) (by first | with_reducible assumption | exact unhid (by with_reducible assumption) | omega | exact ⟨_, hp310, hc335, hi311, Q334⟩) (by first | with_reducible assumption | exact unhid (by with_reducible assumption) | omega | exact ⟨_, hp310, hc335, hi311, Q334⟩) (by first | with_reducible assumption | exact unhid (by with_reducible assumption) | omega | exact ⟨_, hp310, hc335, hi311, Q334⟩) (by first | with_reducible assumption | exact unhid (by with_reducible assumption) | omega | exact ⟨_, hp310, hc335, hi311, Q334⟩) (by omega)) ⟨.inl rfl, .inr ⟨rfl, trivial⟩, trivial⟩
          · skip
            refine go_toq PM165 (k := 4) (pc' := 48) (L' := [some (.inr (.inr (some 79))), some (.inl 7)]) (st' := [.inr (.inr (some 79))]) (w' := (SH, dt249)) rfl ?_
            refine go_callq PM165 PM159 (Q' := _) rfl rfl rfl rfl (sp_X6_next0_p1 L xs sio (d + 2) dt249 hI250   (by first | exact True.intro | with_reducible assumption | rfl | omega | trivial) (by first | exact True.intro | with_reducible assumption | rfl | omega | trivial)) ?_
            rintro _ _ ⟨dt337, rfl, hI338, hF339, h336⟩
            refine ⟨rfl, ?_⟩
            have hF340 : Fr [79, 84] dt dt337 := Fr_tr hF251 hF339 (by decide)
            rcases h336 with ⟨rfl, h336⟩
            obtain ⟨h336_0, h336_1, h336_2, h336_3, h336_4, h336_5, h336_6, h336_7, h336_8⟩ := h336
            have w341 : dt337 79 2 = dt249 79 2 := h336_2
            have w342 : dt337 79 9 = dt249 79 9 := h336_3
            have w343 : dt337 79 10 = dt249 79 10 := h336_4
            have w344 : dt337 79 11 = dt249 79 11 := h336_5
            have w345 : dt337 79 12 = dt249 79 12 := h336_6
            have w346 : dt337 79 17 = dt249 79 17 := h336_7
            have w347 : dt337 79 20 = dt249 79 20 := h336_8
            have hq348 := h336_0
            rw [show dt249 85 = dt 85 from funext (hF251 85 (by decide)), show dt249 79 12 = dt 79 12 by first | with_reducible assumption | fail, hbb, show (dt 79 12).toNat = n from (congrArg Int.toNat hnn).trans (Int.toNat_natCast n)] at hq348
            have hc349 : CUR 1 b n dt337 (gq + 1) := CUR_n hcq hq348
            have hi350 : gq + 1 ≤ t := by omega
            have av351 : dt249 79 15 + 1 ≤ dt249 79 13 := by omega
            have kk_352 : KF 1 b n gq = 43 := by omega
            have hp353 : (gE (KF 1 b n) (VF b n)) i = (fun i => gB (gT (KF 1 b n) (VF b n) i) (gQ (KF 1 b n) (VF b n) 600)) (gq + 1) := hpq.trans (by show gQ _ _ 600 gq = _; rw [gQ_u hz (by omega) (by omega)]; first | (rw [if_pos (by omega)]; done) | (rw [if_pos (by omega)]; rfl))
            clear crq cbq cvq ckq
            have cr354 := hid (CUR_R hc349 (.inr rfl))
            have cd355 := CUR_d (hc349)
            have cb355 := hid (CUR_b hc349)
            have cv356 := hid (CUR_v hc349)
            have ck357 := hid (KZ_lt (i := (gq + 1)) hz)
            have c1358 := (hc349).1
            have ci359 := hi350
            clear h336_2 h336_3 h336_4 h336_5 h336_6 h336_7 h336_8
            refine go_toq PM165 (k := 1) (pc' := 52) (L' := [some (.inr (.inr (some 79))), some (.inl 7)]) (st' := [.inr (.inr (some 79))]) (w' := (SH, dt337)) rfl ?_
            refine go_callq PM165 PM166 (Q' := _) rfl rfl rfl rfl (sp_X6_product_g L xs sio (d + 0) dt337 hI338 b n t (gq + 1) (by first | exact hbb | (rw [show dt337 85 = dt 85 from funext (hF340 85 (by decide)), show dt337 79 12 = dt 79 12 by first | with_reducible assumption | exact unhid (by with_reducible assumption) | omega]; exact hbb)) (by first | with_reducible assumption | exact unhid (by with_reducible assumption) | exact Eq.trans (by with_reducible assumption) hnn | omega) hz ht hc349 hi350 hn5  (by first | exact True.intro | with_reducible assumption | exact unhid (by with_reducible assumption) | rfl | omega | trivial) (by first | exact True.intro | with_reducible assumption | exact unhid (by with_reducible assumption) | rfl | omega | trivial)) ?_
            rintro _ _ ⟨dt361, rfl, hI362, hF363, h360⟩
            refine ⟨rfl, ?_⟩
            have hF364 : Fr [79, 84] dt dt361 := Fr_tr hF340 hF363 (by decide)
            rcases h360 with ⟨rfl, h360⟩ | ⟨rfl, h360⟩
            · skip
              obtain ⟨h360_0, h360_1, h360_2, h360_3, h360_4⟩ := h360
              have w365 : dt361 79 2 = dt249 79 2 := h360_1.trans w341
              have w366 : dt361 79 9 = dt249 79 9 := h360_2.trans w342
              have w367 : dt361 79 10 = dt249 79 10 := h360_3.trans w343
              have w368 : dt361 79 12 = dt249 79 12 := h360_4.trans w345
              have fl369 := RSX_0 h360_0 rfl
              have fe370 : (gE (KF 1 b n) (VF b n)) i = (gT (KF 1 b n) (VF b n)) (gq + 1) := hp353.trans ((show (fun i => gB (gT (KF 1 b n) (VF b n) i) (gQ (KF 1 b n) (VF b n) 600)) (gq + 1) = gB ((gT (KF 1 b n) (VF b n)) (gq + 1)) (gQ (KF 1 b n) (VF b n) 600) by rfl).trans (gB_no fl369.1))
              clear h360_1 w341 h360_2 w342 h360_3 h360_4 w345
              refine go_retq PM165 (k := 2) (r := some (.inl 0)) (w1 := (SH, dt361)) rfl ?_
              exact ⟨dt361, rfl, hI362, hF364, (Or.inl ⟨rfl, ⟨by exact RSX_f fe370 fl369 (by first | rfl | with_reducible assumption | exact unhid (by with_reducible assumption) | fail) (by first | rfl | with_reducible assumption | exact unhid (by with_reducible assumption) | fail), by first | exact True.intro | with_reducible assumption | exact unhid (by with_reducible assumption) | rfl | omega | trivial, by first | exact True.intro | with_reducible assumption | exact unhid (by with_reducible assumption) | rfl | omega | trivial, by first | exact True.intro | with_reducible assumption | exact unhid (by with_reducible assumption) | rfl | omega | trivial, by first | exact True.intro | with_reducible assumption | exact unhid (by with_reducible assumption) | rfl | omega | trivial⟩⟩)⟩
            · skip
              obtain ⟨h360_0, h360_1, h360_2, h360_3, h360_4, h360_5, h360_6, h360_7, h360_8, h360_9, h360_10⟩ := h360
              have w371 : dt361 79 2 = dt249 79 2 := h360_5.trans w341
              have w372 : dt361 79 9 = dt249 79 9 := h360_6.trans w342
              have w373 : dt361 79 10 = dt249 79 10 := h360_7.trans w343
              have w374 : dt361 79 12 = dt249 79 12 := h360_8.trans w345
              have w375 : dt361 79 17 = dt249 79 17 := h360_9.trans w346
              have w376 : dt361 79 20 = dt249 79 20 := h360_10.trans w347
              obtain ⟨j377, ej378, hc379⟩ := RSX_1 h360_0 (by decide)
              have hp380 : (gE (KF 1 b n) (VF b n)) i = (gQ (KF 1 b n) (VF b n) 600) j377 := hp353.trans ((show (fun i => gB (gT (KF 1 b n) (VF b n) i) (gQ (KF 1 b n) (VF b n) 600)) (gq + 1) = gB ((gT (KF 1 b n) (VF b n)) (gq + 1)) (gQ (KF 1 b n) (VF b n) 600) by rfl).trans (by rw [ej378]; exact gB_0))
              have hi381 : j377 ≤ t := by have z := gT_M' (K := (KF 1 b n)) (V := (VF b n)) (i := (gq + 1)) hz; rw [ej378] at z; have y := z rfl; simp only at y; omega
              have Q382 : RQ (rE (KF 1 b n) (VF b n)) (fun q_ => [if (KF 1 b n) gq = 43 then -1 else -2] ++ rQ (KF 1 b n) (VF b n) 600 q_) dt dt361 i j377 := RQ_st hQq (by omega) (RXD_l (by omega) (fun j => hF339 84 (by decide) j) h360_4) (by rw [rQ_u hz (by omega), if_pos ⟨by omega, by rw [ej378]⟩, ej378])
              clear cr354 cb355 cd355 cv356 ck357
              have cr383 := hid (CUR_R hc379 (.inr rfl))
              have cd384 := CUR_d (hc379)
              have cb384 := hid (CUR_b hc379)
              have cv385 := hid (CUR_v hc379)
              have ck386 := hid (KZ_lt (i := j377) hz)
              have c1387 := (hc379).1
              have ci388 := hi381
              clear h360_5 w341 h360_6 w342 h360_7 h360_8 w345 h360_9 w346 h360_10 w347
              refine go_toq PM165 (k := 4) (pc' := 63) (L' := [some (.inr (.inr (some 79))), some (.inl 7)]) (st' := [.inl 0, .inl 7, .inr (.inr (some 79))]) (w' := (SH, dt361)) rfl ?_
              refine go_callq PM165 PM163 (Q' := _) rfl rfl rfl rfl (sp_X6_lay_g L xs sio (d + 8) dt361 hI362  7 ⟨by decide, by decide⟩ 0 ⟨by decide, by decide⟩ (by first | exact True.intro | with_reducible assumption | exact unhid (by with_reducible assumption) | rfl | omega | trivial) (by first | exact True.intro | with_reducible assumption | exact unhid (by with_reducible assumption) | rfl | omega | trivial)) ?_
              rintro _ _ ⟨dt390, rfl, hI391, hF392, h389⟩
              refine ⟨rfl, ?_⟩
              have hF393 : Fr [79, 84] dt dt390 := Fr_tr hF364 hF392 (by decide)
              rcases h389 with ⟨rfl, h389⟩
              obtain ⟨h389_0, h389_1, h389_2, h389_3, h389_4, h389_5, h389_6, h389_7, h389_8, h389_9, h389_10, h389_11⟩ := h389
              have w394 : dt390 79 2 = dt249 79 2 := h389_2.trans w371
              have w395 : dt390 79 9 = dt249 79 9 := h389_3.trans w372
              have w396 : dt390 79 10 = dt249 79 10 := h389_4.trans w373
              have w397 : dt390 79 12 = dt249 79 12 := h389_5.trans w374
              have w398 : dt390 79 13 = dt361 79 13 := h389_6
              have w399 : dt390 79 14 = dt361 79 14 := h389_7
              have w400 : dt390 79 15 = dt361 79 15 := h389_8
              have w401 : dt390 79 16 = dt361 79 16 := h389_9
              have w402 : dt390 79 17 = dt249 79 17 := h389_10.trans w375
              have w403 : dt390 79 20 = dt249 79 20 := h389_11.trans w376
              have Q404 : RQ (rE (KF 1 b n) (VF b n)) (rQ (KF 1 b n) (VF b n) 600) dt dt390 i j377 := RQ_st Q382 (by omega) h389_1 (by show [_] ++ _ = stx 7 0 ++ _; first | (rw [if_pos (by omega)]; rfl) | (rw [if_neg (by fail)]; rfl))
              have hc405 : CUR 1 b n dt390 j377 := CUR_sm hc379 (by first | with_reducible assumption | exact unhid (by with_reducible assumption) | rfl | fail) (by first | with_reducible assumption | exact unhid (by with_reducible assumption) | rfl | fail) (by first | with_reducible assumption | exact unhid (by with_reducible assumption) | rfl | fail) (by first | with_reducible assumption | exact unhid (by with_reducible assumption) | rfl | fail)
              clear h389_2 w371 h389_3 w372 h389_4 h389_5 w374 h389_6 h389_7 h389_8 h389_9 h389_10 w375 h389_11 w376
              refine go_toq PM165 (k := 1) (pc' := 9) (L' := [some (.inr (.inr (some 79))), some (.inl 7)]) (st' := []) (w' := (SH, dt390)) rfl ?_
              exact GO.le (ih_loop262 dt390 hI391 hF393 (by exact ⟨_, hp380, hc405, hi381, Q404⟩) (by first | with_reducible assumption | exact unhid (by with_reducible assumption) | omega | exact ⟨_, hp380, hc405, hi381, Q404⟩) (by first | with_reducible assumption | exact unhid (by with_reducible assumption) | omega | exact ⟨_, hp380, hc405, hi381, Q404⟩) (by first | with_reducible assumption | exact unhid (by with_reducible assumption) | omega | exact ⟨_, hp380, hc405, hi381, Q404⟩) (by first | with_reducible assumption | exact unhid (by with_reducible assumption) | omega | exact ⟨_, hp380, hc405, hi381, Q404⟩) (by first | with_reducible assumption | exact unhid (by with_reducible assumption) | omega | exact ⟨_, hp380, hc405, hi381, Q404⟩) (by first | with_reducible assumption | exact unhid (by with_reducible assumption) | omega | exact ⟨_, hp380, hc405, hi381, Q404⟩) (by first | with_reducible assumption | exact unhid (by with_reducible assumption) | omega | exact ⟨_, hp380, hc405, hi381, Q404⟩) (by first | with_reducible assumption | exact unhid (by with_reducible assumption) | omega | exact ⟨_, hp380, hc405, hi381, Q404⟩) (by first | with_reducible assumption | exact unhid (by with_reducible assumption) | omega | exact ⟨_, hp380, hc405, hi381, Q404⟩) (by omega)) ⟨.inl rfl, .inr ⟨rfl, trivial⟩, trivial⟩
        · skip
          replace c264 := hid c264
          refine go_ifq PM165 (k := 3) (p1 := 69) (p2 := 29) (L' := [some (.inr (.inr (some 79))), none]) (st' := []) (w' := (SH, dt249)) rfl (c_ne (a := dt249 79 14) (b := 145) (by first | exact bnd r263 (by decide) (by decide) | exact ⟨by fail, by fail⟩) ⟨by decide, by decide⟩) (fun c406 => ?_) (fun c406 => ?_)
          · skip
            replace c406 := hid c406
            refine go_retq PM165 (k := 1) (r := some (.inl 1)) (w1 := (SH, dt249)) rfl ?_
            exact ⟨dt249, rfl, hI250, hF251, (Or.inr ⟨rfl, ⟨by exact RSX_ok (hpq.trans (by show gQ _ _ 600 gq = _; rw [gQ_u hz (by omega) (by omega), if_neg (by (have z0_ := unhid c264; have z1_ := unhid c406; omega))])) hcq, by first | exact True.intro | with_reducible assumption | exact unhid (by with_reducible assumption) | rfl | fail | trivial, by first | exact True.intro | with_reducible assumption | exact unhid (by with_reducible assumption) | rfl | fail | trivial, by exact (InvC_get (by assumption) 79 15 rfl rfl).2, by exact RQ_e (RQ_g hQq (by rw [rQ_u hz (by omega), if_neg (fun z_ => by (have z0_ := unhid c264; have z1_ := unhid c406; omega))]; rfl)), by first | exact True.intro | with_reducible assumption | exact unhid (by with_reducible assumption) | rfl | fail | trivial, by first | exact True.intro | with_reducible assumption | exact unhid (by with_reducible assumption) | rfl | fail | trivial, by first | exact True.intro | with_reducible assumption | exact unhid (by with_reducible assumption) | rfl | fail | trivial, by first | exact True.intro | with_reducible assumption | exact unhid (by with_reducible assumption) | rfl | fail | trivial, by first | exact True.intro | with_reducible assumption | exact unhid (by with_reducible assumption) | rfl | fail | trivial, by first | exact True.intro | with_reducible assumption | exact unhid (by with_reducible assumption) | rfl | fail | trivial⟩⟩)⟩
          · skip
            refine go_ifq PM165 (k := 3) (p1 := 44) (p2 := 39) (L' := [some (.inr (.inr (some 79))), none]) (st' := []) (w' := (SH, dt249)) rfl (c_ne (a := dt249 79 14) (b := 143) (by first | exact bnd r263 (by decide) (by decide) | exact ⟨by fail, by fail⟩) ⟨by decide, by decide⟩) (fun c407 => ?_) (fun c407 => ?_)
            · skip
              replace c407 := hid c407
              refine go_toq PM165 (k := 3) (pc' := 48) (L' := [some (.inr (.inr (some 79))), some (.inl 8)]) (st' := [.inr (.inr (some 79))]) (w' := (SH, dt249)) rfl ?_
              refine go_callq PM165 PM159 (Q' := _) rfl rfl rfl rfl (sp_X6_next0_p1 L xs sio (d + 2) dt249 hI250   (by first | exact True.intro | with_reducible assumption | exact unhid (by with_reducible assumption) | rfl | omega | trivial) (by first | exact True.intro | with_reducible assumption | exact unhid (by with_reducible assumption) | rfl | omega | trivial)) ?_
              rintro _ _ ⟨dt409, rfl, hI410, hF411, h408⟩
              refine ⟨rfl, ?_⟩
              have hF412 : Fr [79, 84] dt dt409 := Fr_tr hF251 hF411 (by decide)
              rcases h408 with ⟨rfl, h408⟩
              obtain ⟨h408_0, h408_1, h408_2, h408_3, h408_4, h408_5, h408_6, h408_7, h408_8⟩ := h408
              have w413 : dt409 79 2 = dt249 79 2 := h408_2
              have w414 : dt409 79 9 = dt249 79 9 := h408_3
              have w415 : dt409 79 10 = dt249 79 10 := h408_4
              have w416 : dt409 79 11 = dt249 79 11 := h408_5
              have w417 : dt409 79 12 = dt249 79 12 := h408_6
              have w418 : dt409 79 17 = dt249 79 17 := h408_7
              have w419 : dt409 79 20 = dt249 79 20 := h408_8
              have hq420 := h408_0
              rw [show dt249 85 = dt 85 from funext (hF251 85 (by decide)), show dt249 79 12 = dt 79 12 by first | with_reducible assumption | exact unhid (by with_reducible assumption) | fail, hbb, show (dt 79 12).toNat = n from (congrArg Int.toNat hnn).trans (Int.toNat_natCast n)] at hq420
              have hc421 : CUR 1 b n dt409 (gq + 1) := CUR_n hcq hq420
              have hi422 : gq + 1 ≤ t := by (have z0_ := unhid c264; have z1_ := unhid c407; omega)
              have av423 : dt249 79 15 + 1 ≤ dt249 79 13 := by (have z0_ := unhid c264; have z1_ := unhid c407; omega)
              have kk_424 : KF 1 b n gq = 45 := by (have z0_ := unhid c264; have z1_ := unhid c407; omega)
              have hp425 : (gE (KF 1 b n) (VF b n)) i = (fun i => gB (gT (KF 1 b n) (VF b n) i) (gQ (KF 1 b n) (VF b n) 600)) (gq + 1) := hpq.trans (by show gQ _ _ 600 gq = _; rw [gQ_u hz (by (have z0_ := unhid c264; have z1_ := unhid c407; omega)) (by (have z0_ := unhid c264; have z1_ := unhid c407; omega))]; first | (rw [if_pos (by (have z0_ := unhid c264; have z1_ := unhid c407; omega))]; done) | (rw [if_pos (by (have z0_ := unhid c264; have z1_ := unhid c407; omega))]; rfl))
              clear crq cbq cvq ckq
              have cr426 := hid (CUR_R hc421 (.inr rfl))
              have cd427 := CUR_d (hc421)
              have cb427 := hid (CUR_b hc421)
              have cv428 := hid (CUR_v hc421)
              have ck429 := hid (KZ_lt (i := (gq + 1)) hz)
              have c1430 := (hc421).1
              have ci431 := hi422
              clear h408_2 h408_3 h408_4 h408_5 h408_6 h408_7 h408_8
              refine go_toq PM165 (k := 1) (pc' := 52) (L' := [some (.inr (.inr (some 79))), some (.inl 8)]) (st' := [.inr (.inr (some 79))]) (w' := (SH, dt409)) rfl ?_
              refine go_callq PM165 PM166 (Q' := _) rfl rfl rfl rfl (sp_X6_product_g L xs sio (d + 0) dt409 hI410 b n t (gq + 1) (by first | exact hbb | (rw [show dt409 85 = dt 85 from funext (hF412 85 (by decide)), show dt409 79 12 = dt 79 12 by first | with_reducible assumption | exact unhid (by with_reducible assumption) | omega]; exact hbb)) (by first | with_reducible assumption | exact unhid (by with_reducible assumption) | exact Eq.trans (by with_reducible assumption) hnn | omega) hz ht hc421 hi422 hn5  (by first | exact True.intro | with_reducible assumption | exact unhid (by with_reducible assumption) | rfl | omega | trivial) (by first | exact True.intro | with_reducible assumption | exact unhid (by with_reducible assumption) | rfl | omega | trivial)) ?_
              rintro _ _ ⟨dt433, rfl, hI434, hF435, h432⟩
              refine ⟨rfl, ?_⟩
              have hF436 : Fr [79, 84] dt dt433 := Fr_tr hF412 hF435 (by decide)
              rcases h432 with ⟨rfl, h432⟩ | ⟨rfl, h432⟩
              · skip
                obtain ⟨h432_0, h432_1, h432_2, h432_3, h432_4⟩ := h432
                have w437 : dt433 79 2 = dt249 79 2 := h432_1.trans w413
                have w438 : dt433 79 9 = dt249 79 9 := h432_2.trans w414
                have w439 : dt433 79 10 = dt249 79 10 := h432_3.trans w415
                have w440 : dt433 79 12 = dt249 79 12 := h432_4.trans w417
                have fl441 := RSX_0 h432_0 rfl
                have fe442 : (gE (KF 1 b n) (VF b n)) i = (gT (KF 1 b n) (VF b n)) (gq + 1) := hp425.trans ((show (fun i => gB (gT (KF 1 b n) (VF b n) i) (gQ (KF 1 b n) (VF b n) 600)) (gq + 1) = gB ((gT (KF 1 b n) (VF b n)) (gq + 1)) (gQ (KF 1 b n) (VF b n) 600) by rfl).trans (gB_no fl441.1))
                clear h432_1 w413 h432_2 w414 h432_3 h432_4 w417
                refine go_retq PM165 (k := 2) (r := some (.inl 0)) (w1 := (SH, dt433)) rfl ?_
                exact ⟨dt433, rfl, hI434, hF436, (Or.inl ⟨rfl, ⟨by exact RSX_f fe442 fl441 (by first | rfl | with_reducible assumption | exact unhid (by with_reducible assumption) | fail) (by first | rfl | with_reducible assumption | exact unhid (by with_reducible assumption) | fail), by first | exact True.intro | with_reducible assumption | exact unhid (by with_reducible assumption) | rfl | omega | trivial, by first | exact True.intro | with_reducible assumption | exact unhid (by with_reducible assumption) | rfl | omega | trivial, by first | exact True.intro | with_reducible assumption | exact unhid (by with_reducible assumption) | rfl | omega | trivial, by first | exact True.intro | with_reducible assumption | exact unhid (by with_reducible assumption) | rfl | omega | trivial⟩⟩)⟩
              · skip
                obtain ⟨h432_0, h432_1, h432_2, h432_3, h432_4, h432_5, h432_6, h432_7, h432_8, h432_9, h432_10⟩ := h432
                have w443 : dt433 79 2 = dt249 79 2 := h432_5.trans w413
                have w444 : dt433 79 9 = dt249 79 9 := h432_6.trans w414
                have w445 : dt433 79 10 = dt249 79 10 := h432_7.trans w415
                have w446 : dt433 79 12 = dt249 79 12 := h432_8.trans w417
                have w447 : dt433 79 17 = dt249 79 17 := h432_9.trans w418
                have w448 : dt433 79 20 = dt249 79 20 := h432_10.trans w419
                obtain ⟨j449, ej450, hc451⟩ := RSX_1 h432_0 (by decide)
                have hp452 : (gE (KF 1 b n) (VF b n)) i = (gQ (KF 1 b n) (VF b n) 600) j449 := hp425.trans ((show (fun i => gB (gT (KF 1 b n) (VF b n) i) (gQ (KF 1 b n) (VF b n) 600)) (gq + 1) = gB ((gT (KF 1 b n) (VF b n)) (gq + 1)) (gQ (KF 1 b n) (VF b n) 600) by rfl).trans (by rw [ej450]; exact gB_0))
                have hi453 : j449 ≤ t := by have z := gT_M' (K := (KF 1 b n)) (V := (VF b n)) (i := (gq + 1)) hz; rw [ej450] at z; have y := z rfl; simp only at y; omega
                have Q454 : RQ (rE (KF 1 b n) (VF b n)) (fun q_ => [if (KF 1 b n) gq = 43 then -1 else -2] ++ rQ (KF 1 b n) (VF b n) 600 q_) dt dt433 i j449 := RQ_st hQq (by omega) (RXD_l (by omega) (fun j => hF411 84 (by decide) j) h432_4) (by rw [rQ_u hz (by omega), if_pos ⟨by omega, by rw [ej450]⟩, ej450])
                clear cr426 cb427 cd427 cv428 ck429
                have cr455 := hid (CUR_R hc451 (.inr rfl))
                have cd456 := CUR_d (hc451)
                have cb456 := hid (CUR_b hc451)
                have cv457 := hid (CUR_v hc451)
                have ck458 := hid (KZ_lt (i := j449) hz)
                have c1459 := (hc451).1
                have ci460 := hi453
                clear h432_5 w413 h432_6 w414 h432_7 h432_8 w417 h432_9 w418 h432_10 w419
                refine go_toq PM165 (k := 4) (pc' := 63) (L' := [some (.inr (.inr (some 79))), some (.inl 8)]) (st' := [.inl 0, .inl 8, .inr (.inr (some 79))]) (w' := (SH, dt433)) rfl ?_
                refine go_callq PM165 PM163 (Q' := _) rfl rfl rfl rfl (sp_X6_lay_g L xs sio (d + 8) dt433 hI434  8 ⟨by decide, by decide⟩ 0 ⟨by decide, by decide⟩ (by first | exact True.intro | with_reducible assumption | exact unhid (by with_reducible assumption) | rfl | omega | trivial) (by first | exact True.intro | with_reducible assumption | exact unhid (by with_reducible assumption) | rfl | omega | trivial)) ?_
                rintro _ _ ⟨dt462, rfl, hI463, hF464, h461⟩
                refine ⟨rfl, ?_⟩
                have hF465 : Fr [79, 84] dt dt462 := Fr_tr hF436 hF464 (by decide)
                rcases h461 with ⟨rfl, h461⟩
                obtain ⟨h461_0, h461_1, h461_2, h461_3, h461_4, h461_5, h461_6, h461_7, h461_8, h461_9, h461_10, h461_11⟩ := h461
                have w466 : dt462 79 2 = dt249 79 2 := h461_2.trans w443
                have w467 : dt462 79 9 = dt249 79 9 := h461_3.trans w444
                have w468 : dt462 79 10 = dt249 79 10 := h461_4.trans w445
                have w469 : dt462 79 12 = dt249 79 12 := h461_5.trans w446
                have w470 : dt462 79 13 = dt433 79 13 := h461_6
                have w471 : dt462 79 14 = dt433 79 14 := h461_7
                have w472 : dt462 79 15 = dt433 79 15 := h461_8
                have w473 : dt462 79 16 = dt433 79 16 := h461_9
                have w474 : dt462 79 17 = dt249 79 17 := h461_10.trans w447
                have w475 : dt462 79 20 = dt249 79 20 := h461_11.trans w448
                have Q476 : RQ (rE (KF 1 b n) (VF b n)) (rQ (KF 1 b n) (VF b n) 600) dt dt462 i j449 := RQ_st Q454 (by omega) h461_1 (by show [_] ++ _ = stx 8 0 ++ _; first | (rw [if_pos (by fail)]; rfl) | (rw [if_neg (by omega)]; rfl))
                have hc477 : CUR 1 b n dt462 j449 := CUR_sm hc451 (by first | with_reducible assumption | exact unhid (by with_reducible assumption) | rfl | fail) (by first | with_reducible assumption | exact unhid (by with_reducible assumption) | rfl | fail) (by first | with_reducible assumption | exact unhid (by with_reducible assumption) | rfl | fail) (by first | with_reducible assumption | exact unhid (by with_reducible assumption) | rfl | fail)
                clear h461_2 w443 h461_3 w444 h461_4 h461_5 w446 h461_6 h461_7 h461_8 h461_9 h461_10 w447 h461_11 w448
                refine go_toq PM165 (k := 1) (pc' := 9) (L' := [some (.inr (.inr (some 79))), some (.inl 8)]) (st' := []) (w' := (SH, dt462)) rfl ?_
                exact GO.le (ih_loop262 dt462 hI463 hF465 (by exact ⟨_, hp452, hc477, hi453, Q476⟩) (by first | with_reducible assumption | exact unhid (by with_reducible assumption) | omega | exact ⟨_, hp452, hc477, hi453, Q476⟩) (by first | with_reducible assumption | exact unhid (by with_reducible assumption) | omega | exact ⟨_, hp452, hc477, hi453, Q476⟩) (by first | with_reducible assumption | exact unhid (by with_reducible assumption) | omega | exact ⟨_, hp452, hc477, hi453, Q476⟩) (by first | with_reducible assumption | exact unhid (by with_reducible assumption) | omega | exact ⟨_, hp452, hc477, hi453, Q476⟩) (by first | with_reducible assumption | exact unhid (by with_reducible assumption) | omega | exact ⟨_, hp452, hc477, hi453, Q476⟩) (by first | with_reducible assumption | exact unhid (by with_reducible assumption) | omega | exact ⟨_, hp452, hc477, hi453, Q476⟩) (by first | with_reducible assumption | exact unhid (by with_reducible assumption) | omega | exact ⟨_, hp452, hc477, hi453, Q476⟩) (by first | with_reducible assumption | exact unhid (by with_reducible assumption) | omega | exact ⟨_, hp452, hc477, hi453, Q476⟩) (by first | with_reducible assumption | exact unhid (by with_reducible assumption) | omega | exact ⟨_, hp452, hc477, hi453, Q476⟩) (by omega)) ⟨.inl rfl, .inr ⟨rfl, trivial⟩, trivial⟩
            · exfalso; omega
    exact GO.le (loop262 _ dt5 hI6 hF8 (by exact ⟨_, hp24, hc23, hi25, Q26⟩) (by first | with_reducible assumption | exact unhid (by with_reducible assumption) | fail | exact ⟨_, hp24, hc23, hi25, Q26⟩) (by first | with_reducible assumption | exact unhid (by with_reducible assumption) | fail | exact ⟨_, hp24, hc23, hi25, Q26⟩) (by first | with_reducible assumption | exact unhid (by with_reducible assumption) | fail | exact ⟨_, hp24, hc23, hi25, Q26⟩) (by first | with_reducible assumption | exact unhid (by with_reducible assumption) | fail | exact ⟨_, hp24, hc23, hi25, Q26⟩) (by first | with_reducible assumption | exact unhid (by with_reducible assumption) | fail | exact ⟨_, hp24, hc23, hi25, Q26⟩) (by first | with_reducible assumption | exact unhid (by with_reducible assumption) | fail | exact ⟨_, hp24, hc23, hi25, Q26⟩) (by first | with_reducible assumption | exact unhid (by with_reducible assumption) | fail | exact ⟨_, hp24, hc23, hi25, Q26⟩) (by first | with_reducible assumption | exact unhid (by with_reducible assumption) | fail | exact ⟨_, hp24, hc23, hi25, Q26⟩) (by first | with_reducible assumption | exact unhid (by with_reducible assumption) | fail | exact ⟨_, hp24, hc23, hi25, Q26⟩) (Nat.lt_succ_self _)) ⟨.inl rfl, .inl rfl, trivial⟩
