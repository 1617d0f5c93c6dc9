set_option maxHeartbeats 8000000 in
theorem sp_X1_sum_f (L : Nat) (xs : Nat → Int32) (sio : Option Nat) (d : Nat) (dt : Nat → Nat → Int) (hI : InvC dt) (K V S : Nat → Int) (t : Nat) (hz : KZ K t) (ht : t ≤ 500)  (h_p0 : TKc K V S t dt) (h_p1 : 0 ≤ dt 35 8 ∧ dt 35 8 ≤ (t : Int)) (h_p2 : ¬ dt 35 2 = 0 → dt 35 8 = (t : Int)) (h_p3 : dt 35 2 = 0 → dt 35 12 ≤ dt 35 8) : GO (am_XX L xs sio) (d + 2) 33 0 [some (.inr (.inr (some 35))), none, none, none] [] (SH, dt) (fun r w2 => ∃ dt2 : Nat → Nat → Int, w2 = (SH, dt2) ∧ InvC dt2 ∧ Fr [35, 42] dt dt2 ∧ ((r = none ∧ (SPX S t dt dt2 (gE K V)) ∧ (0 ≤ dt2 35 8 ∧ dt2 35 8 ≤ (t : Int)) ∧ (¬ dt2 35 2 = 0 → dt2 35 8 = (t : Int)) ∧ (dt 35 8 ≤ dt2 35 8) ∧ (dt2 35 2 = 0 → CDX dt dt2 ((eE K V) (dt 35 8).toNat)) ∧ (dt2 35 2 = 0 → dt2 35 12 + dt 35 8 ≤ dt2 35 8 + dt 35 12) ∧ (dt2 35 1 = dt 35 1) ∧ (dt2 35 7 = dt 35 7)))) := by
  replace h_p2 := hid h_p2
  replace h_p3 := hid h_p3
  have hF : Fr [35, 42] dt dt := Fr_refl
  have r1 : 0 ≤ dt 35 12 ∧ dt 35 12 ≤ 500 := InvC_get hI 35 12 rfl rfl
  have r2 : (-2147483648) ≤ dt 35 2 ∧ dt 35 2 ≤ 2147483647 := InvC_get hI 35 2 rfl rfl
  have h7 : dt 35 7 = (t : Int) + 1 := h_p0.1
  have hk0 := TKc_k h_p0 h_p1
  have hv0 := hid (TKc_v h_p0 h_p1)
  have hs0 := TKc_s h_p0 h_p1
  have lt0_ := KZ_lt (i := (dt 35 8).toNat) hz
  refine go_toq PM33 (k := 3) (pc' := 3) (L' := [some (.inr (.inr (some 35))), some (.inl 0), none, none]) (st' := [.inr (.inr (some 35))]) (w' := (SH, dt)) rfl ?_
  refine go_callq PM33 PM35 (Q' := _) rfl rfl rfl rfl (sp_X1_unit_f L xs sio (d + 0) dt hI K V S t hz ht  (by first | with_reducible assumption | exact unhid (by with_reducible assumption) | exact TKc_fr h_p0 hF (by decide) (by decide) (by decide) (by fail) | fail) (by first | with_reducible assumption | exact unhid (by with_reducible assumption) | exact TKc_fr h_p0 hF (by decide) (by decide) (by decide) (by fail) | fail) (by first | with_reducible assumption | exact unhid (by with_reducible assumption) | exact TKc_fr h_p0 hF (by decide) (by decide) (by decide) (by fail) | fail) (by first | with_reducible assumption | exact unhid (by with_reducible assumption) | exact TKc_fr h_p0 hF (by decide) (by decide) (by decide) (by fail) | fail)) ?_
  rintro _ _ ⟨dt4, rfl, hI5, hF6, h3⟩
  refine ⟨rfl, ?_⟩
  have hF7 : Fr [35, 42] dt dt4 := Fr_tr hF hF6 (by decide)
  rcases h3 with ⟨rfl, h3⟩
  obtain ⟨h3_0, h3_1, h3_2, h3_3, h3_4, h3_5, h3_6, h3_7⟩ := h3
  replace h3_2 := hid h3_2
  replace h3_4 := hid h3_4
  replace h3_5 := hid h3_5
  have X8 : PX S t (gE K V) (gS K V 600) dt dt4 := PX_st PX_0 h3_0 (fun hl => by first | exact rfl | (exfalso; fail))
  have Q9 : QX (eE K V) (eS K V 600 0) dt dt4 := QX_st QX_0 (fun z_ => by have y_ := SPX_ok h3_0 (by first | with_reducible assumption | exact unhid (by with_reducible assumption) | fail) z_; first | exact y_.1 | fail) (by omega) (fun z_ => h3_4 z_) (fun z_ => by have y_ := SPX_ok h3_0 (by first | with_reducible assumption | exact unhid (by with_reducible assumption) | fail) z_; (try rw [y_.2.2]); have hl := y_.2.1; first | done | (show eE K V (dt 35 8).toNat = eU K V (dt 35 8).toNat ++ eS K V 600 0 (gU K (dt 35 8).toNat).2; rw [gU_at hl]; rfl))
  have ql10 := fun (z_ : dt4 35 2 = 0) => (SPX_ok h3_0 (by first | with_reducible assumption | exact unhid (by with_reducible assumption) | fail) z_).1
  replace ql10 := hid ql10
  have ql11 := hid (fun (z_ : dt4 35 2 = 0) => (Q9 z_).1)
  refine go_toq PM33 (k := 2) (pc' := 8) (L' := [some (.inr (.inr (some 35))), some (.inl 0), some (.inl 0), none]) (st' := []) (w' := (SH, dt4)) rfl ?_
  have loop236 : ∀ (k_ : Nat) (l8_1 : Int) (l8_2 : Int) (dt219 : Nat → Nat → Int) (hI220 : InvC dt219) (hF221 : Fr [35, 42] dt dt219) (i222 : (-2) ≤ l8_1 ∧ l8_1 ≤ 0) (i223 : 0 ≤ l8_2 ∧ l8_2 ≤ 501) (i224 : PX S t (gE K V) (gS K V 600) dt dt219) (i225 : l8_2 ≤ dt219 35 8) (i226 : 0 ≤ dt219 35 8 ∧ dt219 35 8 ≤ (t : Int)) (i227 : ¬ dt219 35 2 = 0 → dt219 35 8 = (t : Int)) (i228 : dt219 35 7 = dt 35 7) (i229 : dt219 35 1 = dt 35 1) (i230 : dt 35 8 ≤ dt219 35 8) (i231 : QX (eE K V) (eS K V 600 l8_1) dt dt219) (i232 : dt219 35 2 = 0 → dt219 35 12 + dt 35 8 ≤ dt219 35 8 + dt 35 12) (i233 : dt219 35 2 = 0 → ¬ l8_1 = 0 → dt219 35 12 + 1 + dt 35 8 ≤ dt219 35 8 + dt 35 12) (i234 : dt219 35 1 = dt 35 1) (i235 : dt219 35 7 = dt 35 7), (502 - l8_2).toNat < k_ → GO (am_XX L xs sio) (d + 2) 33 8 [some (.inr (.inr (some 35))), some (.inl l8_1), some (.inl l8_2), none] [] (SH, dt219) (fun r w2 => ∃ dt2 : Nat → Nat → Int, w2 = (SH, dt2) ∧ InvC dt2 ∧ Fr [35, 42] dt dt2 ∧ ((r = none ∧ (SPX S t dt dt2 (gE K V)) ∧ (0 ≤ dt2 35 8 ∧ dt2 35 8 ≤ (t : Int)) ∧ (¬ dt2 35 2 = 0 → dt2 35 8 = (t : Int)) ∧ (dt 35 8 ≤ dt2 35 8) ∧ (dt2 35 2 = 0 → CDX dt dt2 ((eE K V) (dt 35 8).toNat)) ∧ (dt2 35 2 = 0 → dt2 35 12 + dt 35 8 ≤ dt2 35 8 + dt 35 12) ∧ (dt2 35 1 = dt 35 1) ∧ (dt2 35 7 = dt 35 7)))) := by
    intro k_
    induction k_ with
    | zero => intro l8_1 l8_2 dt219 hI220 hF221 i222 i223 i224 i225 i226 i227 i228 i229 i230 i231 i232 i233 i234 i235 hm; exact absurd hm (Nat.not_lt_zero _)
    | succ k_ ih_loop236 =>
      intro l8_1 l8_2 dt219 hI220 hF221 i222 i223 i224 i225 i226 i227 i228 i229 i230 i231 i232 i233 i234 i235 hm
      replace i227 := hid i227
      replace i232 := hid i232
      replace i233 := hid i233
      have qX := i224
      have qQ := i231
      have qq_ := fun (z_ : dt219 35 2 = 0) => (qQ z_).1
      refine go_ifq PM33 (k := 2) (p1 := 126) (p2 := 15) (L' := [some (.inr (.inr (some 35))), some (.inl l8_1), some (.inl l8_2), none]) (st' := []) (w' := (SH, dt219)) rfl (c_gt (a := l8_2) (b := 500) (by first | exact bnd i223 (by decide) (by decide) | exact ⟨by fail, by fail⟩) ⟨by decide, by decide⟩) (fun c237 => ?_) (fun c237 => ?_)
      · skip
        refine go_ifq PM33 (k := 1) (p1 := 135) (p2 := 130) (L' := [some (.inr (.inr (some 35))), some (.inl l8_1), some (.inl l8_2), none]) (st' := []) (w' := (SH, dt219)) rfl (z_eq (a := l8_1) (by first | exact bnd i222 (by decide) (by decide) | exact ⟨by fail, by fail⟩)) (fun c238 => ?_) (fun c238 => ?_)
        · skip
          refine go_retq PM33 (k := 0) (r := none) (w1 := (SH, dt219)) rfl ?_
          exact ⟨dt219, rfl, hI220, hF221, ⟨rfl, ⟨by exact PX_e (PX_g qX (fun _ => by rw [gS_u hz (by omega) (by omega), if_neg (by omega), if_neg (by omega)]; rfl)) (by omega), by first | exact True.intro | with_reducible assumption | exact unhid (by with_reducible assumption) | rfl | fail | trivial, by first | exact True.intro | with_reducible assumption | exact unhid (by with_reducible assumption) | rfl | fail | trivial, by first | exact True.intro | with_reducible assumption | exact unhid (by with_reducible assumption) | rfl | fail | trivial, by first | (intro z_; exfalso; omega) | exact QX_e qQ | exact QX_e (QX_g qQ (fun _ => by rw [eS_u hz (by fail), if_neg (by fail), if_neg (by fail), if_neg (by fail), fl_0 (by fail)]; rfl)), by first | exact True.intro | with_reducible assumption | exact unhid (by with_reducible assumption) | rfl | fail | trivial, by first | exact True.intro | with_reducible assumption | exact unhid (by with_reducible assumption) | rfl | fail | trivial, by first | exact True.intro | with_reducible assumption | exact unhid (by with_reducible assumption) | rfl | fail | trivial⟩⟩⟩
        · skip
          replace c238 := hid c238
          refine go_toq PM33 (k := 2) (pc' := 132) (L' := [some (.inr (.inr (some 35))), some (.inl l8_1), some (.inl l8_2), none]) (st' := [.inl l8_1, .inr (.inr (some 35))]) (w' := (SH, dt219)) rfl ?_
          refine go_callq PM33 PM30 (Q' := _) rfl rfl rfl rfl (sp_X1_emit_f L xs sio (d + 1) dt219 hI220  l8_1 (by first | exact bnd i222 (by decide) (by decide) | exact ⟨by fail, by fail⟩) ) ?_
          rintro _ _ ⟨dt240, rfl, hI241, hF242, h239⟩
          refine ⟨rfl, ?_⟩
          have hF243 : Fr [35, 42] dt dt240 := Fr_tr hF221 hF242 (by decide)
          rcases h239 with ⟨rfl, h239⟩
          obtain ⟨h239_0, h239_1, h239_2, h239_3, h239_4, h239_5, h239_6⟩ := h239
          replace h239_0 := hid h239_0
          replace h239_1 := hid h239_1
          have X244 : PX S t (gE K V) (gS K V 600) dt dt240 := PX_sm qX (by omega) (by omega) (by omega)
          have ek245 : (dt240 35 8).toNat = (dt219 35 8).toNat := by omega
          have kk246 : K (dt240 35 8).toNat = K (dt219 35 8).toNat := congrArg K ek245
          have kk247 : V (dt240 35 8).toNat = V (dt219 35 8).toNat := congrArg V ek245
          have Q248 : QX (eE K V) eNl dt dt240 := QX_st qQ (fun z_ => by omega) (by omega) (fun z_ => h239_0 (by omega)) (fun z_ => by (try rw [show (dt240 35 8).toNat = (dt219 35 8).toNat by first | with_reducible assumption | exact unhid (by with_reducible assumption) | fail]); first | done | (rw [eS_u hz (by omega), if_neg (by omega), if_neg (by omega), if_neg (by omega), fl_1 (by omega)]; rfl))
          have ql249 := hid (fun (z_ : dt240 35 2 = 0) => (Q248 z_).1)
          refine go_retq PM33 (k := 0) (r := none) (w1 := (SH, dt240)) rfl ?_
          exact ⟨dt240, rfl, hI241, hF243, ⟨rfl, ⟨by exact PX_e (PX_g X244 (fun _ => by rw [gS_u hz (by omega) (by omega), if_neg (by omega), if_neg (by omega)]; rfl)) (by omega), by first | exact True.intro | with_reducible assumption | exact unhid (by with_reducible assumption) | rfl | omega | trivial, by first | exact True.intro | with_reducible assumption | exact unhid (by with_reducible assumption) | rfl | omega | trivial, by first | exact True.intro | with_reducible assumption | exact unhid (by with_reducible assumption) | rfl | omega | trivial, by first | (intro z_; exfalso; omega) | exact QX_e Q248 | exact QX_e (QX_g Q248 (fun _ => by rw [eS_u hz (by fail), if_neg (by fail), if_neg (by fail), if_neg (by fail), fl_0 (by fail)]; rfl)), by first | exact True.intro | with_reducible assumption | exact unhid (by with_reducible assumption) | rfl | omega | trivial, by first | exact True.intro | with_reducible assumption | exact unhid (by with_reducible assumption) | rfl | omega | trivial, by first | exact True.intro | with_reducible assumption | exact unhid (by with_reducible assumption) | rfl | omega | trivial⟩⟩⟩
      · skip
        refine go_toq PM33 (k := 1) (pc' := 16) (L' := [some (.inr (.inr (some 35))), some (.inl l8_1), some (.inl l8_2), none]) (st' := [.inr (.inr (some 35))]) (w' := (SH, dt219)) rfl ?_
        refine go_callq PM33 PM20 (Q' := _) rfl rfl rfl rfl (sp_X1_token_f L xs sio (d + 1) dt219 hI220 K V S t hz ht  (by first | with_reducible assumption | exact unhid (by with_reducible assumption) | exact TKc_fr h_p0 hF221 (by decide) (by decide) (by decide) (by omega) | fail) (by first | with_reducible assumption | exact unhid (by with_reducible assumption) | exact TKc_fr h_p0 hF221 (by decide) (by decide) (by decide) (by fail) | fail) (by first | with_reducible assumption | exact unhid (by with_reducible assumption) | exact TKc_fr h_p0 hF221 (by decide) (by decide) (by decide) (by fail) | fail)) ?_
        rintro _ _ ⟨rfl, h250⟩
        refine ⟨rfl, ?_⟩
        rcases h250 with ⟨v_h250, rfl, h250r, h250⟩
        refine go_ifq PM33 (k := 3) (p1 := 49) (p2 := 26) (L' := [some (.inr (.inr (some 35))), some (.inl l8_1), some (.inl l8_2), some (.inl v_h250)]) (st' := []) (w' := (SH, dt219)) rfl (c_ne (a := v_h250) (b := 42) (by first | exact bnd h250r (by decide) (by decide) | exact ⟨by fail, by fail⟩) ⟨by decide, by decide⟩) (fun c252 => ?_) (fun c252 => ?_)
        · skip
          replace c252 := hid c252
          refine go_ifq PM33 (k := 2) (p1 := 72) (p2 := 55) (L' := [some (.inr (.inr (some 35))), some (.inl l8_1), some (.inl l8_2), some (.inl v_h250)]) (st' := []) (w' := (SH, dt219)) rfl (c_ne (a := v_h250) (b := 47) (by first | exact bnd h250r (by decide) (by decide) | exact ⟨by fail, by fail⟩) ⟨by decide, by decide⟩) (fun c253 => ?_) (fun c253 => ?_)
          · skip
            replace c253 := hid c253
            refine go_ifq PM33 (k := 2) (p1 := 84) (p2 := 78) (L' := [some (.inr (.inr (some 35))), some (.inl l8_1), some (.inl l8_2), some (.inl v_h250)]) (st' := []) (w' := (SH, dt219)) rfl (c_eq (a := v_h250) (b := 43) (by first | exact bnd h250r (by decide) (by decide) | exact ⟨by fail, by fail⟩) ⟨by decide, by decide⟩) (fun c254 => ?_) (fun c254 => ?_)
            · skip
              refine go_ifq PM33 (k := 1) (p1 := 93) (p2 := 88) (L' := [some (.inr (.inr (some 35))), some (.inl l8_1), some (.inl l8_2), some (.inl v_h250)]) (st' := []) (w' := (SH, dt219)) rfl (z_eq (a := l8_1) (by first | exact bnd i222 (by decide) (by decide) | exact ⟨by fail, by fail⟩)) (fun c255 => ?_) (fun c255 => ?_)
              · skip
                refine go_ifq PM33 (k := 2) (p1 := 103) (p2 := 99) (L' := [some (.inr (.inr (some 35))), some (.inl l8_1), some (.inl l8_2), some (.inl v_h250)]) (st' := []) (w' := (SH, dt219)) rfl (c_ne (a := v_h250) (b := 43) (by first | exact bnd h250r (by decide) (by decide) | exact ⟨by fail, by fail⟩) ⟨by decide, by decide⟩) (fun c256 => ?_) (fun c256 => ?_)
                · skip
                  replace c256 := hid c256
                  refine go_toq PM33 (k := 7) (pc' := 113) (L' := [some (.inr (.inr (some 35))), some (.inl (-2)), some (.inl l8_2), some (.inl v_h250)]) (st' := [.inl ((dt219 35 8) + 1), .inr (.inr (some 35))]) (w' := (SH, dt219)) rfl ?_
                  have hI257 : InvC (u2 dt219 35 8 ((dt219 35 8) + 1)) := InvC_u2 hI220 (lo := -2147483648) (hi := 2147483647) rfl rfl rfl (by omega) (by omega)
                  have hF258 : Fr [35, 42] dt (u2 dt219 35 8 ((dt219 35 8) + 1)) := Fr_u2 hF221 (by decide)
                  have w259 : (u2 dt219 35 8 ((dt219 35 8) + 1)) 35 1 = dt219 35 1 := rfl
                  have w260 : (u2 dt219 35 8 ((dt219 35 8) + 1)) 35 2 = dt219 35 2 := rfl
                  have w261 : (u2 dt219 35 8 ((dt219 35 8) + 1)) 35 3 = dt219 35 3 := rfl
                  have w262 : (u2 dt219 35 8 ((dt219 35 8) + 1)) 35 7 = dt219 35 7 := rfl
                  have w263 : (u2 dt219 35 8 ((dt219 35 8) + 1)) 35 8 = (dt219 35 8) + 1 := rfl
                  have w264 : (u2 dt219 35 8 ((dt219 35 8) + 1)) 35 12 = dt219 35 12 := rfl
                  have lv267 := KLIVE hz (D := dt219) (by omega) (by omega) (by (have z_ := unhid i227; omega))
                  have X266 : PX S t (gE K V) (fun i => gB (gU K i) (gS K V 600)) dt (u2 dt219 35 8 ((dt219 35 8) + 1)) := PX_st qX (SPX_inc hz (by omega) (by omega) (by omega) (by omega) (by omega)) (fun hl => by first | (show (gS K V 600) (dt219 35 8).toNat = (fun i => gB (gU K i) (gS K V 600)) ((dt219 35 8).toNat + 1); rw [gS_u hz (by omega) (by omega)]; rw [if_pos (by omega)]) | (exfalso; fail))
                  refine go_smpq PM33 (L' := [some (.inr (.inr (some 35))), some (.inl (-2)), some (.inl l8_2), some (.inl v_h250)]) (st' := []) (w' := (SH, (u2 dt219 35 8 ((dt219 35 8) + 1)))) rfl rfl (s_pf rfl rfl rfl rfl ⟨by omega, by omega⟩) ?_
                  refine go_toq PM33 (k := 1) (pc' := 117) (L' := [some (.inr (.inr (some 35))), some (.inl (-2)), some (.inl l8_2), some (.inl v_h250)]) (st' := [.inr (.inr (some 35))]) (w' := (SH, (u2 dt219 35 8 ((dt219 35 8) + 1)))) rfl ?_
                  refine go_callq PM33 PM35 (Q' := _) rfl rfl rfl rfl (sp_X1_unit_f L xs sio (d + 0) (u2 dt219 35 8 ((dt219 35 8) + 1)) hI257 K V S t hz ht  (by first | with_reducible assumption | exact unhid (by with_reducible assumption) | exact TKc_fr h_p0 hF258 (by decide) (by decide) (by decide) (by omega) | fail) (by first | with_reducible assumption | exact unhid (by with_reducible assumption) | exact TKc_fr h_p0 hF258 (by decide) (by decide) (by decide) (by omega) | omega) (by first | with_reducible assumption | exact unhid (by with_reducible assumption) | exact TKc_fr h_p0 hF258 (by decide) (by decide) (by decide) (by omega) | omega) (by first | with_reducible assumption | exact unhid (by with_reducible assumption) | exact TKc_fr h_p0 hF258 (by decide) (by decide) (by decide) (by omega) | (have z_ := unhid h_p3; have z2_ := unhid i232; omega))) ?_
                  rintro _ _ ⟨dt269, rfl, hI270, hF271, h268⟩
                  refine ⟨rfl, ?_⟩
                  have hF272 : Fr [35, 42] dt dt269 := Fr_tr hF258 hF271 (by decide)
                  rcases h268 with ⟨rfl, h268⟩
                  obtain ⟨h268_0, h268_1, h268_2, h268_3, h268_4, h268_5, h268_6, h268_7⟩ := h268
                  replace h268_2 := hid h268_2
                  replace h268_4 := hid h268_4
                  replace h268_5 := hid h268_5
                  have X273 : PX S t (gE K V) (gS K V 600) dt dt269 := PX_st X266 h268_0 (fun hl => by first | exact rfl | (exfalso; fail))
                  have Q274 : QX (eE K V) (eS K V 600 (-2)) dt dt269 := QX_st qQ (fun z_ => by have y_ := SPX_ok h268_0 (by first | with_reducible assumption | exact unhid (by with_reducible assumption) | omega) z_; first | exact y_.1 | fail) (by omega) (fun z_ => CDX_l (D' := (u2 dt219 35 8 ((dt219 35 8) + 1))) rfl (fun j => u2_ne (by omega)) ((fun z_ => h268_4 z_) z_)) (fun z_ => by have y_ := SPX_ok h268_0 (by first | with_reducible assumption | exact unhid (by with_reducible assumption) | omega) z_; (try rw [y_.2.2]); have hl := y_.2.1; rw [show ((u2 dt219 35 8 ((dt219 35 8) + 1)) 35 8).toNat = (dt219 35 8).toNat + 1 by first | with_reducible assumption | exact unhid (by with_reducible assumption) | omega] at hl ⊢; first | done | (rw [eS_u hz (by omega), if_neg (by omega), if_neg (by omega), if_pos (by omega), fl_0 (by omega), List.nil_append]; show eU K V ((dt219 35 8).toNat + 1) ++ eS K V 600 (if K (dt219 35 8).toNat = 43 then -1 else -2) ((dt219 35 8).toNat + 2) = _ ++ eS K V 600 (-2) (gU K ((dt219 35 8).toNat + 1)).2; rw [gU_at hl]; first | (rw [if_pos (by omega)]; done) | (rw [if_neg (by (have z_ := unhid c256; omega))]; done)))
                  have ql275 := fun (z_ : dt269 35 2 = 0) => (SPX_ok h268_0 (by first | with_reducible assumption | exact unhid (by with_reducible assumption) | omega) z_).1
                  replace ql275 := hid ql275
                  have ql276 := hid (fun (z_ : dt269 35 2 = 0) => (Q274 z_).1)
                  refine go_toq PM33 (k := 2) (pc' := 8) (L' := [some (.inr (.inr (some 35))), some (.inl (-2)), some (.inl (l8_2 + 1)), some (.inl v_h250)]) (st' := []) (w' := (SH, dt269)) rfl ?_
                  exact GO.le (ih_loop236 (-2) (l8_2 + 1) dt269 hI270 hF272 (by first | with_reducible assumption | exact unhid (by with_reducible assumption) | omega | exact X273 | exact Q274) (by first | with_reducible assumption | exact unhid (by with_reducible assumption) | omega | exact X273 | exact Q274) (by exact X273) (by first | with_reducible assumption | exact unhid (by with_reducible assumption) | omega | exact X273 | exact Q274) (by first | with_reducible assumption | exact unhid (by with_reducible assumption) | fail | exact X273 | exact Q274) (by first | with_reducible assumption | exact unhid (by with_reducible assumption) | fail | exact X273 | exact Q274) (by first | with_reducible assumption | exact unhid (by with_reducible assumption) | omega | exact X273 | exact Q274) (by first | with_reducible assumption | exact unhid (by with_reducible assumption) | omega | exact X273 | exact Q274) (by first | with_reducible assumption | exact unhid (by with_reducible assumption) | omega | exact X273 | exact Q274) (by exact Q274) (by first | with_reducible assumption | exact unhid (by with_reducible assumption) | (have z_ := unhid i232; have z2_ := unhid h268_5; omega) | exact X273 | exact Q274) (by first | with_reducible assumption | exact unhid (by with_reducible assumption) | (have z_ := unhid i232; have z2_ := unhid h268_5; omega) | exact X273 | exact Q274) (by first | with_reducible assumption | exact unhid (by with_reducible assumption) | omega | exact X273 | exact Q274) (by first | with_reducible assumption | exact unhid (by with_reducible assumption) | omega | exact X273 | exact Q274) (by omega)) ⟨.inl rfl, .inl rfl, .inl rfl, .inr ⟨rfl, trivial⟩, trivial⟩
                · skip
                  refine go_toq PM33 (k := 8) (pc' := 113) (L' := [some (.inr (.inr (some 35))), some (.inl (-1)), some (.inl l8_2), some (.inl v_h250)]) (st' := [.inl ((dt219 35 8) + 1), .inr (.inr (some 35))]) (w' := (SH, dt219)) rfl ?_
                  have hI277 : InvC (u2 dt219 35 8 ((dt219 35 8) + 1)) := InvC_u2 hI220 (lo := -2147483648) (hi := 2147483647) rfl rfl rfl (by omega) (by omega)
                  have hF278 : Fr [35, 42] dt (u2 dt219 35 8 ((dt219 35 8) + 1)) := Fr_u2 hF221 (by decide)
                  have w279 : (u2 dt219 35 8 ((dt219 35 8) + 1)) 35 1 = dt219 35 1 := rfl
                  have w280 : (u2 dt219 35 8 ((dt219 35 8) + 1)) 35 2 = dt219 35 2 := rfl
                  have w281 : (u2 dt219 35 8 ((dt219 35 8) + 1)) 35 3 = dt219 35 3 := rfl
                  have w282 : (u2 dt219 35 8 ((dt219 35 8) + 1)) 35 7 = dt219 35 7 := rfl
                  have w283 : (u2 dt219 35 8 ((dt219 35 8) + 1)) 35 8 = (dt219 35 8) + 1 := rfl
                  have w284 : (u2 dt219 35 8 ((dt219 35 8) + 1)) 35 12 = dt219 35 12 := rfl
                  have lv287 := KLIVE hz (D := dt219) (by omega) (by omega) (by (have z_ := unhid i227; omega))
                  have X286 : PX S t (gE K V) (fun i => gB (gU K i) (gS K V 600)) dt (u2 dt219 35 8 ((dt219 35 8) + 1)) := PX_st qX (SPX_inc hz (by omega) (by omega) (by omega) (by omega) (by omega)) (fun hl => by first | (show (gS K V 600) (dt219 35 8).toNat = (fun i => gB (gU K i) (gS K V 600)) ((dt219 35 8).toNat + 1); rw [gS_u hz (by omega) (by omega)]; rw [if_pos (by omega)]) | (exfalso; fail))
                  refine go_smpq PM33 (L' := [some (.inr (.inr (some 35))), some (.inl (-1)), some (.inl l8_2), some (.inl v_h250)]) (st' := []) (w' := (SH, (u2 dt219 35 8 ((dt219 35 8) + 1)))) rfl rfl (s_pf rfl rfl rfl rfl ⟨by omega, by omega⟩) ?_
                  refine go_toq PM33 (k := 1) (pc' := 117) (L' := [some (.inr (.inr (some 35))), some (.inl (-1)), some (.inl l8_2), some (.inl v_h250)]) (st' := [.inr (.inr (some 35))]) (w' := (SH, (u2 dt219 35 8 ((dt219 35 8) + 1)))) rfl ?_
                  refine go_callq PM33 PM35 (Q' := _) rfl rfl rfl rfl (sp_X1_unit_f L xs sio (d + 0) (u2 dt219 35 8 ((dt219 35 8) + 1)) hI277 K V S t hz ht  (by first | with_reducible assumption | exact unhid (by with_reducible assumption) | exact TKc_fr h_p0 hF278 (by decide) (by decide) (by decide) (by omega) | fail) (by first | with_reducible assumption | exact unhid (by with_reducible assumption) | exact TKc_fr h_p0 hF278 (by decide) (by decide) (by decide) (by omega) | omega) (by first | with_reducible assumption | exact unhid (by with_reducible assumption) | exact TKc_fr h_p0 hF278 (by decide) (by decide) (by decide) (by omega) | omega) (by first | with_reducible assumption | exact unhid (by with_reducible assumption) | exact TKc_fr h_p0 hF278 (by decide) (by decide) (by decide) (by omega) | (have z_ := unhid h_p3; have z2_ := unhid i232; omega))) ?_
                  rintro _ _ ⟨dt289, rfl, hI290, hF291, h288⟩
                  refine ⟨rfl, ?_⟩
                  have hF292 : Fr [35, 42] dt dt289 := Fr_tr hF278 hF291 (by decide)
                  rcases h288 with ⟨rfl, h288⟩
                  obtain ⟨h288_0, h288_1, h288_2, h288_3, h288_4, h288_5, h288_6, h288_7⟩ := h288
                  replace h288_2 := hid h288_2
                  replace h288_4 := hid h288_4
                  replace h288_5 := hid h288_5
                  have X293 : PX S t (gE K V) (gS K V 600) dt dt289 := PX_st X286 h288_0 (fun hl => by first | exact rfl | (exfalso; fail))
                  have Q294 : QX (eE K V) (eS K V 600 (-1)) dt dt289 := QX_st qQ (fun z_ => by have y_ := SPX_ok h288_0 (by first | with_reducible assumption | exact unhid (by with_reducible assumption) | omega) z_; first | exact y_.1 | fail) (by omega) (fun z_ => CDX_l (D' := (u2 dt219 35 8 ((dt219 35 8) + 1))) rfl (fun j => u2_ne (by omega)) ((fun z_ => h288_4 z_) z_)) (fun z_ => by have y_ := SPX_ok h288_0 (by first | with_reducible assumption | exact unhid (by with_reducible assumption) | omega) z_; (try rw [y_.2.2]); have hl := y_.2.1; rw [show ((u2 dt219 35 8 ((dt219 35 8) + 1)) 35 8).toNat = (dt219 35 8).toNat + 1 by first | with_reducible assumption | exact unhid (by with_reducible assumption) | omega] at hl ⊢; first | done | (rw [eS_u hz (by omega), if_neg (by omega), if_neg (by omega), if_pos (by omega), fl_0 (by omega), List.nil_append]; show eU K V ((dt219 35 8).toNat + 1) ++ eS K V 600 (if K (dt219 35 8).toNat = 43 then -1 else -2) ((dt219 35 8).toNat + 2) = _ ++ eS K V 600 (-1) (gU K ((dt219 35 8).toNat + 1)).2; rw [gU_at hl]; first | (rw [if_pos (by omega)]; done) | (rw [if_neg (by fail)]; done)))
                  have ql295 := fun (z_ : dt289 35 2 = 0) => (SPX_ok h288_0 (by first | with_reducible assumption | exact unhid (by with_reducible assumption) | omega) z_).1
                  replace ql295 := hid ql295
                  have ql296 := hid (fun (z_ : dt289 35 2 = 0) => (Q294 z_).1)
                  refine go_toq PM33 (k := 2) (pc' := 8) (L' := [some (.inr (.inr (some 35))), some (.inl (-1)), some (.inl (l8_2 + 1)), some (.inl v_h250)]) (st' := []) (w' := (SH, dt289)) rfl ?_
                  exact GO.le (ih_loop236 (-1) (l8_2 + 1) dt289 hI290 hF292 (by first | with_reducible assumption | exact unhid (by with_reducible assumption) | omega | exact X293 | exact Q294) (by first | with_reducible assumption | exact unhid (by with_reducible assumption) | omega | exact X293 | exact Q294) (by exact X293) (by first | with_reducible assumption | exact unhid (by with_reducible assumption) | omega | exact X293 | exact Q294) (by first | with_reducible assumption | exact unhid (by with_reducible assumption) | fail | exact X293 | exact Q294) (by first | with_reducible assumption | exact unhid (by with_reducible assumption) | fail | exact X293 | exact Q294) (by first | with_reducible assumption | exact unhid (by with_reducible assumption) | omega | exact X293 | exact Q294) (by first | with_reducible assumption | exact unhid (by with_reducible assumption) | omega | exact X293 | exact Q294) (by first | with_reducible assumption | exact unhid (by with_reducible assumption) | omega | exact X293 | exact Q294) (by exact Q294) (by first | with_reducible assumption | exact unhid (by with_reducible assumption) | (have z_ := unhid i232; have z2_ := unhid h288_5; omega) | exact X293 | exact Q294) (by first | with_reducible assumption | exact unhid (by with_reducible assumption) | (have z_ := unhid i232; have z2_ := unhid h288_5; omega) | exact X293 | exact Q294) (by first | with_reducible assumption | exact unhid (by with_reducible assumption) | omega | exact X293 | exact Q294) (by first | with_reducible assumption | exact unhid (by with_reducible assumption) | omega | exact X293 | exact Q294) (by omega)) ⟨.inl rfl, .inl rfl, .inl rfl, .inr ⟨rfl, trivial⟩, trivial⟩
              · skip
                replace c255 := hid c255
                refine go_toq PM33 (k := 2) (pc' := 90) (L' := [some (.inr (.inr (some 35))), some (.inl l8_1), some (.inl l8_2), some (.inl v_h250)]) (st' := [.inl l8_1, .inr (.inr (some 35))]) (w' := (SH, dt219)) rfl ?_
                refine go_callq PM33 PM30 (Q' := _) rfl rfl rfl rfl (sp_X1_emit_f L xs sio (d + 1) dt219 hI220  l8_1 (by first | exact bnd i222 (by decide) (by decide) | exact ⟨by fail, by fail⟩) ) ?_
                rintro _ _ ⟨dt298, rfl, hI299, hF300, h297⟩
                refine ⟨rfl, ?_⟩
                have hF301 : Fr [35, 42] dt dt298 := Fr_tr hF221 hF300 (by decide)
                rcases h297 with ⟨rfl, h297⟩
                obtain ⟨h297_0, h297_1, h297_2, h297_3, h297_4, h297_5, h297_6⟩ := h297
                replace h297_0 := hid h297_0
                replace h297_1 := hid h297_1
                have u20_ := hid (And.intro (unhid h_p2) (And.intro (unhid h_p3) (And.intro (unhid hv0) (And.intro (unhid i227) (And.intro (unhid i232) (And.intro (unhid i233) (And.intro (unhid c252) (And.intro (unhid c253) (And.intro (unhid c255) (unhid h297_1))))))))))
                have X302 : PX S t (gE K V) (gS K V 600) dt dt298 := PX_sm qX (by omega) (by omega) (by omega)
                have ek303 : (dt298 35 8).toNat = (dt219 35 8).toNat := by omega
                have kk304 : K (dt298 35 8).toNat = K (dt219 35 8).toNat := congrArg K ek303
                have kk305 : V (dt298 35 8).toNat = V (dt219 35 8).toNat := congrArg V ek303
                have Q306 : QX (eE K V) (fun i => eU K V (i + 1) ++ eS K V 600 (if K i = 43 then -1 else -2) (i + 2)) dt dt298 := QX_st qQ (fun z_ => by omega) (by omega) (fun z_ => h297_0 (by (have z_ := unhid u20_; omega))) (fun z_ => by (try rw [show (dt298 35 8).toNat = (dt219 35 8).toNat by first | with_reducible assumption | exact unhid (by with_reducible assumption) | fail]); first | done | (rw [eS_u hz (by omega), if_neg (by omega), if_neg (by omega), if_pos (by omega), fl_1 (by (have z_ := unhid c255; omega))]))
                have ql307 := hid (fun (z_ : dt298 35 2 = 0) => (Q306 z_).1)
                have u22_ := hid (And.intro (unhid h_p2) (And.intro (unhid h_p3) (And.intro (unhid hv0) (And.intro (unhid i227) (And.intro (unhid i232) (And.intro (unhid i233) (And.intro (unhid c252) (And.intro (unhid c253) (And.intro (unhid c255) (And.intro (unhid h297_1) (unhid ql307)))))))))))
                refine go_ifq PM33 (k := 2) (p1 := 103) (p2 := 99) (L' := [some (.inr (.inr (some 35))), some (.inl l8_1), some (.inl l8_2), some (.inl v_h250)]) (st' := []) (w' := (SH, dt298)) rfl (c_ne (a := v_h250) (b := 43) (by first | exact bnd h250r (by decide) (by decide) | exact ⟨by fail, by fail⟩) ⟨by decide, by decide⟩) (fun c308 => ?_) (fun c308 => ?_)
                · skip
                  replace c308 := hid c308
                  refine go_toq PM33 (k := 7) (pc' := 113) (L' := [some (.inr (.inr (some 35))), some (.inl (-2)), some (.inl l8_2), some (.inl v_h250)]) (st' := [.inl ((dt298 35 8) + 1), .inr (.inr (some 35))]) (w' := (SH, dt298)) rfl ?_
                  have hI309 : InvC (u2 dt298 35 8 ((dt298 35 8) + 1)) := InvC_u2 hI299 (lo := -2147483648) (hi := 2147483647) rfl rfl rfl (by omega) (by omega)
                  have hF310 : Fr [35, 42] dt (u2 dt298 35 8 ((dt298 35 8) + 1)) := Fr_u2 hF301 (by decide)
                  have w311 : (u2 dt298 35 8 ((dt298 35 8) + 1)) 35 1 = dt298 35 1 := rfl
                  have w312 : (u2 dt298 35 8 ((dt298 35 8) + 1)) 35 2 = dt298 35 2 := rfl
                  have w313 : (u2 dt298 35 8 ((dt298 35 8) + 1)) 35 3 = dt298 35 3 := rfl
                  have w314 : (u2 dt298 35 8 ((dt298 35 8) + 1)) 35 7 = dt298 35 7 := rfl
                  have w315 : (u2 dt298 35 8 ((dt298 35 8) + 1)) 35 8 = (dt298 35 8) + 1 := rfl
                  have w316 : (u2 dt298 35 8 ((dt298 35 8) + 1)) 35 12 = dt298 35 12 := rfl
                  have lv319 := KLIVE hz (D := dt298) (by omega) (by omega) (by (have z_ := unhid i227; omega))
                  have X318 : PX S t (gE K V) (fun i => gB (gU K i) (gS K V 600)) dt (u2 dt298 35 8 ((dt298 35 8) + 1)) := PX_st X302 (SPX_inc hz (by omega) (by omega) (by omega) (by omega) (by omega)) (fun hl => by first | (show (gS K V 600) (dt298 35 8).toNat = (fun i => gB (gU K i) (gS K V 600)) ((dt298 35 8).toNat + 1); rw [gS_u hz (by omega) (by omega)]; rw [if_pos (by omega)]) | (exfalso; fail))
                  refine go_smpq PM33 (L' := [some (.inr (.inr (some 35))), some (.inl (-2)), some (.inl l8_2), some (.inl v_h250)]) (st' := []) (w' := (SH, (u2 dt298 35 8 ((dt298 35 8) + 1)))) rfl rfl (s_pf rfl rfl rfl rfl ⟨by omega, by omega⟩) ?_
                  refine go_toq PM33 (k := 1) (pc' := 117) (L' := [some (.inr (.inr (some 35))), some (.inl (-2)), some (.inl l8_2), some (.inl v_h250)]) (st' := [.inr (.inr (some 35))]) (w' := (SH, (u2 dt298 35 8 ((dt298 35 8) + 1)))) rfl ?_
                  refine go_callq PM33 PM35 (Q' := _) rfl rfl rfl rfl (sp_X1_unit_f L xs sio (d + 0) (u2 dt298 35 8 ((dt298 35 8) + 1)) hI309 K V S t hz ht  (by first | with_reducible assumption | exact unhid (by with_reducible assumption) | exact TKc_fr h_p0 hF310 (by decide) (by decide) (by decide) (by omega) | fail) (by first | with_reducible assumption | exact unhid (by with_reducible assumption) | exact TKc_fr h_p0 hF310 (by decide) (by decide) (by decide) (by omega) | omega) (by first | with_reducible assumption | exact unhid (by with_reducible assumption) | exact TKc_fr h_p0 hF310 (by decide) (by decide) (by decide) (by omega) | omega) (by first | with_reducible assumption | exact unhid (by with_reducible assumption) | exact TKc_fr h_p0 hF310 (by decide) (by decide) (by decide) (by omega) | (have z_ := unhid c308; omega))) ?_
                  rintro _ _ ⟨dt321, rfl, hI322, hF323, h320⟩
                  refine ⟨rfl, ?_⟩
                  have hF324 : Fr [35, 42] dt dt321 := Fr_tr hF310 hF323 (by decide)
                  rcases h320 with ⟨rfl, h320⟩
                  obtain ⟨h320_0, h320_1, h320_2, h320_3, h320_4, h320_5, h320_6, h320_7⟩ := h320
                  replace h320_2 := hid h320_2
                  replace h320_4 := hid h320_4
                  replace h320_5 := hid h320_5
                  have X325 : PX S t (gE K V) (gS K V 600) dt dt321 := PX_st X318 h320_0 (fun hl => by first | exact rfl | (exfalso; fail))
                  have Q326 : QX (eE K V) (eS K V 600 (-2)) dt dt321 := QX_st Q306 (fun z_ => by have y_ := SPX_ok h320_0 (by first | with_reducible assumption | exact unhid (by with_reducible assumption) | omega) z_; first | exact y_.1 | fail) (by omega) (fun z_ => CDX_l (D' := (u2 dt298 35 8 ((dt298 35 8) + 1))) rfl (fun j => u2_ne (by omega)) ((fun z_ => h320_4 z_) z_)) (fun z_ => by have y_ := SPX_ok h320_0 (by first | with_reducible assumption | exact unhid (by with_reducible assumption) | omega) z_; (try rw [y_.2.2]); have hl := y_.2.1; rw [show ((u2 dt298 35 8 ((dt298 35 8) + 1)) 35 8).toNat = (dt298 35 8).toNat + 1 by first | with_reducible assumption | exact unhid (by with_reducible assumption) | omega] at hl ⊢; first | done | (show eU K V ((dt298 35 8).toNat + 1) ++ eS K V 600 (if K (dt298 35 8).toNat = 43 then -1 else -2) ((dt298 35 8).toNat + 2) = _ ++ eS K V 600 (-2) (gU K ((dt298 35 8).toNat + 1)).2; rw [gU_at hl]; first | (rw [if_pos (by omega)]; done) | (rw [if_neg (by (have z_ := unhid c308; omega))]; done)))
                  have ql327 := fun (z_ : dt321 35 2 = 0) => (SPX_ok h320_0 (by first | with_reducible assumption | exact unhid (by with_reducible assumption) | omega) z_).1
                  replace ql327 := hid ql327
                  have ql328 := hid (fun (z_ : dt321 35 2 = 0) => (Q326 z_).1)
                  refine go_toq PM33 (k := 2) (pc' := 8) (L' := [some (.inr (.inr (some 35))), some (.inl (-2)), some (.inl (l8_2 + 1)), some (.inl v_h250)]) (st' := []) (w' := (SH, dt321)) rfl ?_
                  exact GO.le (ih_loop236 (-2) (l8_2 + 1) dt321 hI322 hF324 (by first | with_reducible assumption | exact unhid (by with_reducible assumption) | omega | exact X325 | exact Q326) (by first | with_reducible assumption | exact unhid (by with_reducible assumption) | omega | exact X325 | exact Q326) (by exact X325) (by first | with_reducible assumption | exact unhid (by with_reducible assumption) | omega | exact X325 | exact Q326) (by first | with_reducible assumption | exact unhid (by with_reducible assumption) | fail | exact X325 | exact Q326) (by first | with_reducible assumption | exact unhid (by with_reducible assumption) | fail | exact X325 | exact Q326) (by first | with_reducible assumption | exact unhid (by with_reducible assumption) | omega | exact X325 | exact Q326) (by first | with_reducible assumption | exact unhid (by with_reducible assumption) | omega | exact X325 | exact Q326) (by first | with_reducible assumption | exact unhid (by with_reducible assumption) | omega | exact X325 | exact Q326) (by exact Q326) (by first | with_reducible assumption | exact unhid (by with_reducible assumption) | (have z_ := unhid c308; omega) | exact X325 | exact Q326) (by first | with_reducible assumption | exact unhid (by with_reducible assumption) | (have z_ := unhid c308; omega) | exact X325 | exact Q326) (by first | with_reducible assumption | exact unhid (by with_reducible assumption) | omega | exact X325 | exact Q326) (by first | with_reducible assumption | exact unhid (by with_reducible assumption) | omega | exact X325 | exact Q326) (by omega)) ⟨.inl rfl, .inl rfl, .inl rfl, .inr ⟨rfl, trivial⟩, trivial⟩
                · skip
                  refine go_toq PM33 (k := 8) (pc' := 113) (L' := [some (.inr (.inr (some 35))), some (.inl (-1)), some (.inl l8_2), some (.inl v_h250)]) (st' := [.inl ((dt298 35 8) + 1), .inr (.inr (some 35))]) (w' := (SH, dt298)) rfl ?_
                  have hI329 : InvC (u2 dt298 35 8 ((dt298 35 8) + 1)) := InvC_u2 hI299 (lo := -2147483648) (hi := 2147483647) rfl rfl rfl (by omega) (by omega)
                  have hF330 : Fr [35, 42] dt (u2 dt298 35 8 ((dt298 35 8) + 1)) := Fr_u2 hF301 (by decide)
                  have w331 : (u2 dt298 35 8 ((dt298 35 8) + 1)) 35 1 = dt298 35 1 := rfl
                  have w332 : (u2 dt298 35 8 ((dt298 35 8) + 1)) 35 2 = dt298 35 2 := rfl
                  have w333 : (u2 dt298 35 8 ((dt298 35 8) + 1)) 35 3 = dt298 35 3 := rfl
                  have w334 : (u2 dt298 35 8 ((dt298 35 8) + 1)) 35 7 = dt298 35 7 := rfl
                  have w335 : (u2 dt298 35 8 ((dt298 35 8) + 1)) 35 8 = (dt298 35 8) + 1 := rfl
                  have w336 : (u2 dt298 35 8 ((dt298 35 8) + 1)) 35 12 = dt298 35 12 := rfl
                  have lv339 := KLIVE hz (D := dt298) (by omega) (by omega) (by (have z_ := unhid i227; omega))
                  have X338 : PX S t (gE K V) (fun i => gB (gU K i) (gS K V 600)) dt (u2 dt298 35 8 ((dt298 35 8) + 1)) := PX_st X302 (SPX_inc hz (by omega) (by omega) (by omega) (by omega) (by omega)) (fun hl => by first | (show (gS K V 600) (dt298 35 8).toNat = (fun i => gB (gU K i) (gS K V 600)) ((dt298 35 8).toNat + 1); rw [gS_u hz (by omega) (by omega)]; rw [if_pos (by omega)]) | (exfalso; fail))
                  refine go_smpq PM33 (L' := [some (.inr (.inr (some 35))), some (.inl (-1)), some (.inl l8_2), some (.inl v_h250)]) (st' := []) (w' := (SH, (u2 dt298 35 8 ((dt298 35 8) + 1)))) rfl rfl (s_pf rfl rfl rfl rfl ⟨by omega, by omega⟩) ?_
                  refine go_toq PM33 (k := 1) (pc' := 117) (L' := [some (.inr (.inr (some 35))), some (.inl (-1)), some (.inl l8_2), some (.inl v_h250)]) (st' := [.inr (.inr (some 35))]) (w' := (SH, (u2 dt298 35 8 ((dt298 35 8) + 1)))) rfl ?_
                  refine go_callq PM33 PM35 (Q' := _) rfl rfl rfl rfl (sp_X1_unit_f L xs sio (d + 0) (u2 dt298 35 8 ((dt298 35 8) + 1)) hI329 K V S t hz ht  (by first | with_reducible assumption | exact unhid (by with_reducible assumption) | exact TKc_fr h_p0 hF330 (by decide) (by decide) (by decide) (by omega) | fail) (by first | with_reducible assumption | exact unhid (by with_reducible assumption) | exact TKc_fr h_p0 hF330 (by decide) (by decide) (by decide) (by omega) | omega) (by first | with_reducible assumption | exact unhid (by with_reducible assumption) | exact TKc_fr h_p0 hF330 (by decide) (by decide) (by decide) (by omega) | omega) (by first | with_reducible assumption | exact unhid (by with_reducible assumption) | exact TKc_fr h_p0 hF330 (by decide) (by decide) (by decide) (by omega) | (have z_ := unhid u22_; omega))) ?_
                  rintro _ _ ⟨dt341, rfl, hI342, hF343, h340⟩
                  refine ⟨rfl, ?_⟩
                  have hF344 : Fr [35, 42] dt dt341 := Fr_tr hF330 hF343 (by decide)
                  rcases h340 with ⟨rfl, h340⟩
                  obtain ⟨h340_0, h340_1, h340_2, h340_3, h340_4, h340_5, h340_6, h340_7⟩ := h340
                  replace h340_2 := hid h340_2
                  replace h340_4 := hid h340_4
                  replace h340_5 := hid h340_5
                  have X345 : PX S t (gE K V) (gS K V 600) dt dt341 := PX_st X338 h340_0 (fun hl => by first | exact rfl | (exfalso; fail))
                  have Q346 : QX (eE K V) (eS K V 600 (-1)) dt dt341 := QX_st Q306 (fun z_ => by have y_ := SPX_ok h340_0 (by first | with_reducible assumption | exact unhid (by with_reducible assumption) | omega) z_; first | exact y_.1 | fail) (by omega) (fun z_ => CDX_l (D' := (u2 dt298 35 8 ((dt298 35 8) + 1))) rfl (fun j => u2_ne (by omega)) ((fun z_ => h340_4 z_) z_)) (fun z_ => by have y_ := SPX_ok h340_0 (by first | with_reducible assumption | exact unhid (by with_reducible assumption) | omega) z_; (try rw [y_.2.2]); have hl := y_.2.1; rw [show ((u2 dt298 35 8 ((dt298 35 8) + 1)) 35 8).toNat = (dt298 35 8).toNat + 1 by first | with_reducible assumption | exact unhid (by with_reducible assumption) | omega] at hl ⊢; first | done | (show eU K V ((dt298 35 8).toNat + 1) ++ eS K V 600 (if K (dt298 35 8).toNat = 43 then -1 else -2) ((dt298 35 8).toNat + 2) = _ ++ eS K V 600 (-1) (gU K ((dt298 35 8).toNat + 1)).2; rw [gU_at hl]; first | (rw [if_pos (by omega)]; done) | (rw [if_neg (by fail)]; done)))
                  have ql347 := fun (z_ : dt341 35 2 = 0) => (SPX_ok h340_0 (by first | with_reducible assumption | exact unhid (by with_reducible assumption) | omega) z_).1
                  replace ql347 := hid ql347
                  have ql348 := hid (fun (z_ : dt341 35 2 = 0) => (Q346 z_).1)
                  refine go_toq PM33 (k := 2) (pc' := 8) (L' := [some (.inr (.inr (some 35))), some (.inl (-1)), some (.inl (l8_2 + 1)), some (.inl v_h250)]) (st' := []) (w' := (SH, dt341)) rfl ?_
                  have u31_ := hid (And.intro (unhid h_p2) (And.intro (unhid h_p3) (And.intro (unhid hv0) (And.intro (unhid i227) (And.intro (unhid i232) (And.intro (unhid i233) (And.intro (unhid c252) (And.intro (unhid c253) (And.intro (unhid c255) (And.intro (unhid h297_1) (And.intro (unhid ql307) (And.intro (unhid h340_2) (And.intro (unhid h340_5) (And.intro (unhid ql347) (unhid ql348)))))))))))))))
                  exact GO.le (ih_loop236 (-1) (l8_2 + 1) dt341 hI342 hF344 (by first | with_reducible assumption | exact unhid (by with_reducible assumption) | omega | exact X345 | exact Q346) (by first | with_reducible assumption | exact unhid (by with_reducible assumption) | omega | exact X345 | exact Q346) (by exact X345) (by first | with_reducible assumption | exact unhid (by with_reducible assumption) | omega | exact X345 | exact Q346) (by first | with_reducible assumption | exact unhid (by with_reducible assumption) | fail | exact X345 | exact Q346) (by first | with_reducible assumption | exact unhid (by with_reducible assumption) | fail | exact X345 | exact Q346) (by first | with_reducible assumption | exact unhid (by with_reducible assumption) | omega | exact X345 | exact Q346) (by first | with_reducible assumption | exact unhid (by with_reducible assumption) | omega | exact X345 | exact Q346) (by first | with_reducible assumption | exact unhid (by with_reducible assumption) | omega | exact X345 | exact Q346) (by exact Q346) (by first | with_reducible assumption | exact unhid (by with_reducible assumption) | (have z_ := unhid u31_; omega) | exact X345 | exact Q346) (by first | with_reducible assumption | exact unhid (by with_reducible assumption) | (have z_ := unhid u31_; omega) | exact X345 | exact Q346) (by first | with_reducible assumption | exact unhid (by with_reducible assumption) | omega | exact X345 | exact Q346) (by first | with_reducible assumption | exact unhid (by with_reducible assumption) | omega | exact X345 | exact Q346) (by omega)) ⟨.inl rfl, .inl rfl, .inl rfl, .inr ⟨rfl, trivial⟩, trivial⟩
            · skip
              replace c254 := hid c254
              refine go_ifq PM33 (k := 2) (p1 := 126) (p2 := 84) (L' := [some (.inr (.inr (some 35))), some (.inl l8_1), some (.inl l8_2), some (.inl v_h250)]) (st' := []) (w' := (SH, dt219)) rfl (c_ne (a := v_h250) (b := 45) (by first | exact bnd h250r (by decide) (by decide) | exact ⟨by fail, by fail⟩) ⟨by decide, by decide⟩) (fun c349 => ?_) (fun c349 => ?_)
              · skip
                replace c349 := hid c349
                have u34_ := hid (And.intro (unhid h_p2) (And.intro (unhid h_p3) (And.intro (unhid hv0) (And.intro (unhid i227) (And.intro (unhid i232) (And.intro (unhid i233) (And.intro (unhid c252) (And.intro (unhid c253) (And.intro (unhid c254) (unhid c349))))))))))
                refine go_ifq PM33 (k := 1) (p1 := 135) (p2 := 130) (L' := [some (.inr (.inr (some 35))), some (.inl l8_1), some (.inl l8_2), some (.inl v_h250)]) (st' := []) (w' := (SH, dt219)) rfl (z_eq (a := l8_1) (by first | exact bnd i222 (by decide) (by decide) | exact ⟨by fail, by fail⟩)) (fun c350 => ?_) (fun c350 => ?_)
                · skip
                  refine go_retq PM33 (k := 0) (r := none) (w1 := (SH, dt219)) rfl ?_
                  exact ⟨dt219, rfl, hI220, hF221, ⟨rfl, ⟨by exact PX_e (PX_g qX (fun _ => by rw [gS_u hz (by omega) (by omega), if_neg (by (have z_ := unhid u34_; omega)), if_neg (by (have z_ := unhid c253; omega))]; rfl)) (by omega), by first | exact True.intro | with_reducible assumption | exact unhid (by with_reducible assumption) | rfl | fail | trivial, by first | exact True.intro | with_reducible assumption | exact unhid (by with_reducible assumption) | rfl | fail | trivial, by first | exact True.intro | with_reducible assumption | exact unhid (by with_reducible assumption) | rfl | fail | trivial, by first | (intro z_; exfalso; fail) | exact QX_e qQ | exact QX_e (QX_g qQ (fun _ => by rw [eS_u hz (by omega), if_neg (by (have z_ := unhid c252; omega)), if_neg (by (have z_ := unhid c253; omega)), if_neg (by (have z_ := unhid c254; have z2_ := unhid c349; omega)), fl_0 (by omega)]; rfl)), by first | exact True.intro | with_reducible assumption | exact unhid (by with_reducible assumption) | rfl | fail | trivial, by first | exact True.intro | with_reducible assumption | exact unhid (by with_reducible assumption) | rfl | fail | trivial, by first | exact True.intro | with_reducible assumption | exact unhid (by with_reducible assumption) | rfl | fail | trivial⟩⟩⟩
                · skip
                  replace c350 := hid c350
                  refine go_toq PM33 (k := 2) (pc' := 132) (L' := [some (.inr (.inr (some 35))), some (.inl l8_1), some (.inl l8_2), some (.inl v_h250)]) (st' := [.inl l8_1, .inr (.inr (some 35))]) (w' := (SH, dt219)) rfl ?_
                  refine go_callq PM33 PM30 (Q' := _) rfl rfl rfl rfl (sp_X1_emit_f L xs sio (d + 1) dt219 hI220  l8_1 (by first | exact bnd i222 (by decide) (by decide) | exact ⟨by fail, by fail⟩) ) ?_
                  rintro _ _ ⟨dt352, rfl, hI353, hF354, h351⟩
                  refine ⟨rfl, ?_⟩
                  have hF355 : Fr [35, 42] dt dt352 := Fr_tr hF221 hF354 (by decide)
                  rcases h351 with ⟨rfl, h351⟩
                  obtain ⟨h351_0, h351_1, h351_2, h351_3, h351_4, h351_5, h351_6⟩ := h351
                  replace h351_0 := hid h351_0
                  replace h351_1 := hid h351_1
                  have u36_ := hid (And.intro (unhid h_p2) (And.intro (unhid h_p3) (And.intro (unhid hv0) (And.intro (unhid i227) (And.intro (unhid i232) (And.intro (unhid i233) (And.intro (unhid c252) (And.intro (unhid c253) (And.intro (unhid c254) (And.intro (unhid c349) (And.intro (unhid c350) (unhid h351_1))))))))))))
                  have X356 : PX S t (gE K V) (gS K V 600) dt dt352 := PX_sm qX (by omega) (by omega) (by omega)
                  have ek357 : (dt352 35 8).toNat = (dt219 35 8).toNat := by omega
                  have kk358 : K (dt352 35 8).toNat = K (dt219 35 8).toNat := congrArg K ek357
                  have kk359 : V (dt352 35 8).toNat = V (dt219 35 8).toNat := congrArg V ek357
                  have Q360 : QX (eE K V) eNl dt dt352 := QX_st qQ (fun z_ => by omega) (by omega) (fun z_ => h351_0 (by (have z_ := unhid u36_; omega))) (fun z_ => by (try rw [show (dt352 35 8).toNat = (dt219 35 8).toNat by first | with_reducible assumption | exact unhid (by with_reducible assumption) | fail]); first | done | (rw [eS_u hz (by omega), if_neg (by (have z_ := unhid c252; omega)), if_neg (by (have z_ := unhid c253; omega)), if_neg (by (have z_ := unhid c254; have z2_ := unhid c349; omega)), fl_1 (by (have z_ := unhid c350; omega))]; rfl))
                  have ql361 := hid (fun (z_ : dt352 35 2 = 0) => (Q360 z_).1)
                  refine go_retq PM33 (k := 0) (r := none) (w1 := (SH, dt352)) rfl ?_
                  have u38_ := hid (And.intro (unhid h_p2) (And.intro (unhid h_p3) (And.intro (unhid hv0) (And.intro (unhid i227) (And.intro (unhid i232) (And.intro (unhid i233) (And.intro (unhid c252) (And.intro (unhid c253) (And.intro (unhid c254) (And.intro (unhid c349) (And.intro (unhid c350) (And.intro (unhid h351_1) (unhid ql361)))))))))))))
                  exact ⟨dt352, rfl, hI353, hF355, ⟨rfl, ⟨by exact PX_e (PX_g X356 (fun _ => by rw [gS_u hz (by omega) (by omega), if_neg (by (have z_ := unhid u38_; omega)), if_neg (by (have z_ := unhid c253; omega))]; rfl)) (by omega), by first | exact True.intro | with_reducible assumption | exact unhid (by with_reducible assumption) | rfl | omega | trivial, by first | exact True.intro | with_reducible assumption | exact unhid (by with_reducible assumption) | rfl | (have z_ := unhid i227; omega) | trivial, by first | exact True.intro | with_reducible assumption | exact unhid (by with_reducible assumption) | rfl | omega | trivial, by first | (intro z_; exfalso; fail) | exact QX_e Q360 | exact QX_e (QX_g Q360 (fun _ => by rw [eS_u hz (by fail), if_neg (by fail), if_neg (by fail), if_neg (by fail), fl_0 (by fail)]; rfl)), by first | exact True.intro | with_reducible assumption | exact unhid (by with_reducible assumption) | rfl | (have z_ := unhid u38_; omega) | trivial, by first | exact True.intro | with_reducible assumption | exact unhid (by with_reducible assumption) | rfl | omega | trivial, by first | exact True.intro | with_reducible assumption | exact unhid (by with_reducible assumption) | rfl | omega | trivial⟩⟩⟩
              · skip
                refine go_ifq PM33 (k := 1) (p1 := 93) (p2 := 88) (L' := [some (.inr (.inr (some 35))), some (.inl l8_1), some (.inl l8_2), some (.inl v_h250)]) (st' := []) (w' := (SH, dt219)) rfl (z_eq (a := l8_1) (by first | exact bnd i222 (by decide) (by decide) | exact ⟨by fail, by fail⟩)) (fun c362 => ?_) (fun c362 => ?_)
                · skip
                  refine go_ifq PM33 (k := 2) (p1 := 103) (p2 := 99) (L' := [some (.inr (.inr (some 35))), some (.inl l8_1), some (.inl l8_2), some (.inl v_h250)]) (st' := []) (w' := (SH, dt219)) rfl (c_ne (a := v_h250) (b := 43) (by first | exact bnd h250r (by decide) (by decide) | exact ⟨by fail, by fail⟩) ⟨by decide, by decide⟩) (fun c363 => ?_) (fun c363 => ?_)
                  · skip
                    replace c363 := hid c363
                    refine go_toq PM33 (k := 7) (pc' := 113) (L' := [some (.inr (.inr (some 35))), some (.inl (-2)), some (.inl l8_2), some (.inl v_h250)]) (st' := [.inl ((dt219 35 8) + 1), .inr (.inr (some 35))]) (w' := (SH, dt219)) rfl ?_
                    have hI364 : InvC (u2 dt219 35 8 ((dt219 35 8) + 1)) := InvC_u2 hI220 (lo := -2147483648) (hi := 2147483647) rfl rfl rfl (by omega) (by omega)
                    have hF365 : Fr [35, 42] dt (u2 dt219 35 8 ((dt219 35 8) + 1)) := Fr_u2 hF221 (by decide)
                    have w366 : (u2 dt219 35 8 ((dt219 35 8) + 1)) 35 1 = dt219 35 1 := rfl
                    have w367 : (u2 dt219 35 8 ((dt219 35 8) + 1)) 35 2 = dt219 35 2 := rfl
                    have w368 : (u2 dt219 35 8 ((dt219 35 8) + 1)) 35 3 = dt219 35 3 := rfl
                    have w369 : (u2 dt219 35 8 ((dt219 35 8) + 1)) 35 7 = dt219 35 7 := rfl
                    have w370 : (u2 dt219 35 8 ((dt219 35 8) + 1)) 35 8 = (dt219 35 8) + 1 := rfl
                    have w371 : (u2 dt219 35 8 ((dt219 35 8) + 1)) 35 12 = dt219 35 12 := rfl
                    have lv374 := KLIVE hz (D := dt219) (by omega) (by omega) (by (have z_ := unhid i227; omega))
                    have X373 : PX S t (gE K V) (fun i => gB (gU K i) (gS K V 600)) dt (u2 dt219 35 8 ((dt219 35 8) + 1)) := PX_st qX (SPX_inc hz (by omega) (by omega) (by omega) (by omega) (by omega)) (fun hl => by first | (show (gS K V 600) (dt219 35 8).toNat = (fun i => gB (gU K i) (gS K V 600)) ((dt219 35 8).toNat + 1); rw [gS_u hz (by omega) (by omega)]; rw [if_pos (by omega)]) | (exfalso; fail))
                    refine go_smpq PM33 (L' := [some (.inr (.inr (some 35))), some (.inl (-2)), some (.inl l8_2), some (.inl v_h250)]) (st' := []) (w' := (SH, (u2 dt219 35 8 ((dt219 35 8) + 1)))) rfl rfl (s_pf rfl rfl rfl rfl ⟨by omega, by omega⟩) ?_
                    refine go_toq PM33 (k := 1) (pc' := 117) (L' := [some (.inr (.inr (some 35))), some (.inl (-2)), some (.inl l8_2), some (.inl v_h250)]) (st' := [.inr (.inr (some 35))]) (w' := (SH, (u2 dt219 35 8 ((dt219 35 8) + 1)))) rfl ?_
                    refine go_callq PM33 PM35 (Q' := _) rfl rfl rfl rfl (sp_X1_unit_f L xs sio (d + 0) (u2 dt219 35 8 ((dt219 35 8) + 1)) hI364 K V S t hz ht  (by first | with_reducible assumption | exact unhid (by with_reducible assumption) | exact TKc_fr h_p0 hF365 (by decide) (by decide) (by decide) (by omega) | fail) (by first | with_reducible assumption | exact unhid (by with_reducible assumption) | exact TKc_fr h_p0 hF365 (by decide) (by decide) (by decide) (by omega) | omega) (by first | with_reducible assumption | exact unhid (by with_reducible assumption) | exact TKc_fr h_p0 hF365 (by decide) (by decide) (by decide) (by omega) | omega) (by first | with_reducible assumption | exact unhid (by with_reducible assumption) | exact TKc_fr h_p0 hF365 (by decide) (by decide) (by decide) (by omega) | (have z_ := unhid h_p3; have z2_ := unhid i232; omega))) ?_
                    rintro _ _ ⟨dt376, rfl, hI377, hF378, h375⟩
                    refine ⟨rfl, ?_⟩
                    have hF379 : Fr [35, 42] dt dt376 := Fr_tr hF365 hF378 (by decide)
                    rcases h375 with ⟨rfl, h375⟩
                    obtain ⟨h375_0, h375_1, h375_2, h375_3, h375_4, h375_5, h375_6, h375_7⟩ := h375
                    replace h375_2 := hid h375_2
                    replace h375_4 := hid h375_4
                    replace h375_5 := hid h375_5
                    have X380 : PX S t (gE K V) (gS K V 600) dt dt376 := PX_st X373 h375_0 (fun hl => by first | exact rfl | (exfalso; fail))
                    have Q381 : QX (eE K V) (eS K V 600 (-2)) dt dt376 := QX_st qQ (fun z_ => by have y_ := SPX_ok h375_0 (by first | with_reducible assumption | exact unhid (by with_reducible assumption) | omega) z_; first | exact y_.1 | fail) (by omega) (fun z_ => CDX_l (D' := (u2 dt219 35 8 ((dt219 35 8) + 1))) rfl (fun j => u2_ne (by omega)) ((fun z_ => h375_4 z_) z_)) (fun z_ => by have y_ := SPX_ok h375_0 (by first | with_reducible assumption | exact unhid (by with_reducible assumption) | omega) z_; (try rw [y_.2.2]); have hl := y_.2.1; rw [show ((u2 dt219 35 8 ((dt219 35 8) + 1)) 35 8).toNat = (dt219 35 8).toNat + 1 by first | with_reducible assumption | exact unhid (by with_reducible assumption) | omega] at hl ⊢; first | done | (rw [eS_u hz (by omega), if_neg (by omega), if_neg (by omega), if_pos (by omega), fl_0 (by omega), List.nil_append]; show eU K V ((dt219 35 8).toNat + 1) ++ eS K V 600 (if K (dt219 35 8).toNat = 43 then -1 else -2) ((dt219 35 8).toNat + 2) = _ ++ eS K V 600 (-2) (gU K ((dt219 35 8).toNat + 1)).2; rw [gU_at hl]; first | (rw [if_pos (by fail)]; done) | (rw [if_neg (by omega)]; done)))
                    have ql382 := fun (z_ : dt376 35 2 = 0) => (SPX_ok h375_0 (by first | with_reducible assumption | exact unhid (by with_reducible assumption) | omega) z_).1
                    replace ql382 := hid ql382
                    have ql383 := hid (fun (z_ : dt376 35 2 = 0) => (Q381 z_).1)
                    refine go_toq PM33 (k := 2) (pc' := 8) (L' := [some (.inr (.inr (some 35))), some (.inl (-2)), some (.inl (l8_2 + 1)), some (.inl v_h250)]) (st' := []) (w' := (SH, dt376)) rfl ?_
                    exact GO.le (ih_loop236 (-2) (l8_2 + 1) dt376 hI377 hF379 (by first | with_reducible assumption | exact unhid (by with_reducible assumption) | omega | exact X380 | exact Q381) (by first | with_reducible assumption | exact unhid (by with_reducible assumption) | omega | exact X380 | exact Q381) (by exact X380) (by first | with_reducible assumption | exact unhid (by with_reducible assumption) | omega | exact X380 | exact Q381) (by first | with_reducible assumption | exact unhid (by with_reducible assumption) | fail | exact X380 | exact Q381) (by first | with_reducible assumption | exact unhid (by with_reducible assumption) | fail | exact X380 | exact Q381) (by first | with_reducible assumption | exact unhid (by with_reducible assumption) | omega | exact X380 | exact Q381) (by first | with_reducible assumption | exact unhid (by with_reducible assumption) | omega | exact X380 | exact Q381) (by first | with_reducible assumption | exact unhid (by with_reducible assumption) | omega | exact X380 | exact Q381) (by exact Q381) (by first | with_reducible assumption | exact unhid (by with_reducible assumption) | (have z_ := unhid i232; have z2_ := unhid h375_5; omega) | exact X380 | exact Q381) (by first | with_reducible assumption | exact unhid (by with_reducible assumption) | (have z_ := unhid i232; have z2_ := unhid h375_5; omega) | exact X380 | exact Q381) (by first | with_reducible assumption | exact unhid (by with_reducible assumption) | omega | exact X380 | exact Q381) (by first | with_reducible assumption | exact unhid (by with_reducible assumption) | omega | exact X380 | exact Q381) (by omega)) ⟨.inl rfl, .inl rfl, .inl rfl, .inr ⟨rfl, trivial⟩, trivial⟩
                  · exfalso; omega
                · skip
                  replace c362 := hid c362
                  refine go_toq PM33 (k := 2) (pc' := 90) (L' := [some (.inr (.inr (some 35))), some (.inl l8_1), some (.inl l8_2), some (.inl v_h250)]) (st' := [.inl l8_1, .inr (.inr (some 35))]) (w' := (SH, dt219)) rfl ?_
                  refine go_callq PM33 PM30 (Q' := _) rfl rfl rfl rfl (sp_X1_emit_f L xs sio (d + 1) dt219 hI220  l8_1 (by first | exact bnd i222 (by decide) (by decide) | exact ⟨by fail, by fail⟩) ) ?_
                  rintro _ _ ⟨dt385, rfl, hI386, hF387, h384⟩
                  refine ⟨rfl, ?_⟩
                  have hF388 : Fr [35, 42] dt dt385 := Fr_tr hF221 hF387 (by decide)
                  rcases h384 with ⟨rfl, h384⟩
                  obtain ⟨h384_0, h384_1, h384_2, h384_3, h384_4, h384_5, h384_6⟩ := h384
                  replace h384_0 := hid h384_0
                  replace h384_1 := hid h384_1
                  have u46_ := hid (And.intro (unhid h_p2) (And.intro (unhid h_p3) (And.intro (unhid hv0) (And.intro (unhid i227) (And.intro (unhid i232) (And.intro (unhid i233) (And.intro (unhid c252) (And.intro (unhid c253) (And.intro (unhid c254) (And.intro (unhid c362) (unhid h384_1)))))))))))
                  have X389 : PX S t (gE K V) (gS K V 600) dt dt385 := PX_sm qX (by omega) (by omega) (by omega)
                  have ek390 : (dt385 35 8).toNat = (dt219 35 8).toNat := by omega
                  have kk391 : K (dt385 35 8).toNat = K (dt219 35 8).toNat := congrArg K ek390
                  have kk392 : V (dt385 35 8).toNat = V (dt219 35 8).toNat := congrArg V ek390
                  have Q393 : QX (eE K V) (fun i => eU K V (i + 1) ++ eS K V 600 (if K i = 43 then -1 else -2) (i + 2)) dt dt385 := QX_st qQ (fun z_ => by omega) (by omega) (fun z_ => h384_0 (by (have z_ := unhid u46_; omega))) (fun z_ => by (try rw [show (dt385 35 8).toNat = (dt219 35 8).toNat by first | with_reducible assumption | exact unhid (by with_reducible assumption) | fail]); first | done | (rw [eS_u hz (by omega), if_neg (by omega), if_neg (by omega), if_pos (by omega), fl_1 (by (have z_ := unhid c362; omega))]))
                  have ql394 := hid (fun (z_ : dt385 35 2 = 0) => (Q393 z_).1)
                  refine go_ifq PM33 (k := 2) (p1 := 103) (p2 := 99) (L' := [some (.inr (.inr (some 35))), some (.inl l8_1), some (.inl l8_2), some (.inl v_h250)]) (st' := []) (w' := (SH, dt385)) rfl (c_ne (a := v_h250) (b := 43) (by first | exact bnd h250r (by decide) (by decide) | exact ⟨by fail, by fail⟩) ⟨by decide, by decide⟩) (fun c395 => ?_) (fun c395 => ?_)
                  · skip
                    replace c395 := hid c395
                    refine go_toq PM33 (k := 7) (pc' := 113) (L' := [some (.inr (.inr (some 35))), some (.inl (-2)), some (.inl l8_2), some (.inl v_h250)]) (st' := [.inl ((dt385 35 8) + 1), .inr (.inr (some 35))]) (w' := (SH, dt385)) rfl ?_
                    have u50_ := hid (And.intro (unhid h_p2) (And.intro (unhid h_p3) (And.intro (unhid hv0) (And.intro (unhid i227) (And.intro (unhid i232) (And.intro (unhid i233) (And.intro (unhid c252) (And.intro (unhid c253) (And.intro (unhid c254) (And.intro (unhid c362) (And.intro (unhid h384_1) (And.intro (unhid ql394) (unhid c395)))))))))))))
                    have hI396 : InvC (u2 dt385 35 8 ((dt385 35 8) + 1)) := InvC_u2 hI386 (lo := -2147483648) (hi := 2147483647) rfl rfl rfl (by omega) (by omega)
                    have hF397 : Fr [35, 42] dt (u2 dt385 35 8 ((dt385 35 8) + 1)) := Fr_u2 hF388 (by decide)
                    have w398 : (u2 dt385 35 8 ((dt385 35 8) + 1)) 35 1 = dt385 35 1 := rfl
                    have w399 : (u2 dt385 35 8 ((dt385 35 8) + 1)) 35 2 = dt385 35 2 := rfl
                    have w400 : (u2 dt385 35 8 ((dt385 35 8) + 1)) 35 3 = dt385 35 3 := rfl
                    have w401 : (u2 dt385 35 8 ((dt385 35 8) + 1)) 35 7 = dt385 35 7 := rfl
                    have w402 : (u2 dt385 35 8 ((dt385 35 8) + 1)) 35 8 = (dt385 35 8) + 1 := rfl
                    have w403 : (u2 dt385 35 8 ((dt385 35 8) + 1)) 35 12 = dt385 35 12 := rfl
                    have lv406 := KLIVE hz (D := dt385) (by omega) (by omega) (by (have z_ := unhid i227; omega))
                    have X405 : PX S t (gE K V) (fun i => gB (gU K i) (gS K V 600)) dt (u2 dt385 35 8 ((dt385 35 8) + 1)) := PX_st X389 (SPX_inc hz (by omega) (by omega) (by omega) (by omega) (by omega)) (fun hl => by first | (show (gS K V 600) (dt385 35 8).toNat = (fun i => gB (gU K i) (gS K V 600)) ((dt385 35 8).toNat + 1); rw [gS_u hz (by omega) (by omega)]; rw [if_pos (by omega)]) | (exfalso; fail))
                    refine go_smpq PM33 (L' := [some (.inr (.inr (some 35))), some (.inl (-2)), some (.inl l8_2), some (.inl v_h250)]) (st' := []) (w' := (SH, (u2 dt385 35 8 ((dt385 35 8) + 1)))) rfl rfl (s_pf rfl rfl rfl rfl ⟨by omega, by omega⟩) ?_
                    refine go_toq PM33 (k := 1) (pc' := 117) (L' := [some (.inr (.inr (some 35))), some (.inl (-2)), some (.inl l8_2), some (.inl v_h250)]) (st' := [.inr (.inr (some 35))]) (w' := (SH, (u2 dt385 35 8 ((dt385 35 8) + 1)))) rfl ?_
                    refine go_callq PM33 PM35 (Q' := _) rfl rfl rfl rfl (sp_X1_unit_f L xs sio (d + 0) (u2 dt385 35 8 ((dt385 35 8) + 1)) hI396 K V S t hz ht  (by first | with_reducible assumption | exact unhid (by with_reducible assumption) | exact TKc_fr h_p0 hF397 (by decide) (by decide) (by decide) (by omega) | fail) (by first | with_reducible assumption | exact unhid (by with_reducible assumption) | exact TKc_fr h_p0 hF397 (by decide) (by decide) (by decide) (by omega) | omega) (by first | with_reducible assumption | exact unhid (by with_reducible assumption) | exact TKc_fr h_p0 hF397 (by decide) (by decide) (by decide) (by omega) | omega) (by first | with_reducible assumption | exact unhid (by with_reducible assumption) | exact TKc_fr h_p0 hF397 (by decide) (by decide) (by decide) (by omega) | (have z_ := unhid u50_; omega))) ?_
                    rintro _ _ ⟨dt408, rfl, hI409, hF410, h407⟩
                    refine ⟨rfl, ?_⟩
                    have hF411 : Fr [35, 42] dt dt408 := Fr_tr hF397 hF410 (by decide)
                    rcases h407 with ⟨rfl, h407⟩
                    obtain ⟨h407_0, h407_1, h407_2, h407_3, h407_4, h407_5, h407_6, h407_7⟩ := h407
                    replace h407_2 := hid h407_2
                    replace h407_4 := hid h407_4
                    replace h407_5 := hid h407_5
                    have X412 : PX S t (gE K V) (gS K V 600) dt dt408 := PX_st X405 h407_0 (fun hl => by first | exact rfl | (exfalso; fail))
                    have Q413 : QX (eE K V) (eS K V 600 (-2)) dt dt408 := QX_st Q393 (fun z_ => by have y_ := SPX_ok h407_0 (by first | with_reducible assumption | exact unhid (by with_reducible assumption) | omega) z_; first | exact y_.1 | fail) (by omega) (fun z_ => CDX_l (D' := (u2 dt385 35 8 ((dt385 35 8) + 1))) rfl (fun j => u2_ne (by omega)) ((fun z_ => h407_4 z_) z_)) (fun z_ => by have y_ := SPX_ok h407_0 (by first | with_reducible assumption | exact unhid (by with_reducible assumption) | omega) z_; (try rw [y_.2.2]); have hl := y_.2.1; rw [show ((u2 dt385 35 8 ((dt385 35 8) + 1)) 35 8).toNat = (dt385 35 8).toNat + 1 by first | with_reducible assumption | exact unhid (by with_reducible assumption) | omega] at hl ⊢; first | done | (show eU K V ((dt385 35 8).toNat + 1) ++ eS K V 600 (if K (dt385 35 8).toNat = 43 then -1 else -2) ((dt385 35 8).toNat + 2) = _ ++ eS K V 600 (-2) (gU K ((dt385 35 8).toNat + 1)).2; rw [gU_at hl]; first | (rw [if_pos (by fail)]; done) | (rw [if_neg (by omega)]; done)))
                    have ql414 := fun (z_ : dt408 35 2 = 0) => (SPX_ok h407_0 (by first | with_reducible assumption | exact unhid (by with_reducible assumption) | omega) z_).1
                    replace ql414 := hid ql414
                    have ql415 := hid (fun (z_ : dt408 35 2 = 0) => (Q413 z_).1)
                    refine go_toq PM33 (k := 2) (pc' := 8) (L' := [some (.inr (.inr (some 35))), some (.inl (-2)), some (.inl (l8_2 + 1)), some (.inl v_h250)]) (st' := []) (w' := (SH, dt408)) rfl ?_
                    have u53_ := hid (And.intro (unhid h_p2) (And.intro (unhid h_p3) (And.intro (unhid hv0) (And.intro (unhid i227) (And.intro (unhid i232) (And.intro (unhid i233) (And.intro (unhid c252) (And.intro (unhid c253) (And.intro (unhid c254) (And.intro (unhid c362) (And.intro (unhid h384_1) (And.intro (unhid ql394) (And.intro (unhid c395) (And.intro (unhid h407_2) (And.intro (unhid h407_5) (And.intro (unhid ql414) (unhid ql415)))))))))))))))))
                    exact GO.le (ih_loop236 (-2) (l8_2 + 1) dt408 hI409 hF411 (by first | with_reducible assumption | exact unhid (by with_reducible assumption) | omega | exact X412 | exact Q413) (by first | with_reducible assumption | exact unhid (by with_reducible assumption) | omega | exact X412 | exact Q413) (by exact X412) (by first | with_reducible assumption | exact unhid (by with_reducible assumption) | omega | exact X412 | exact Q413) (by first | with_reducible assumption | exact unhid (by with_reducible assumption) | fail | exact X412 | exact Q413) (by first | with_reducible assumption | exact unhid (by with_reducible assumption) | fail | exact X412 | exact Q413) (by first | with_reducible assumption | exact unhid (by with_reducible assumption) | omega | exact X412 | exact Q413) (by first | with_reducible assumption | exact unhid (by with_reducible assumption) | omega | exact X412 | exact Q413) (by first | with_reducible assumption | exact unhid (by with_reducible assumption) | omega | exact X412 | exact Q413) (by exact Q413) (by first | with_reducible assumption | exact unhid (by with_reducible assumption) | (have z_ := unhid u53_; omega) | exact X412 | exact Q413) (by first | with_reducible assumption | exact unhid (by with_reducible assumption) | (have z_ := unhid u53_; omega) | exact X412 | exact Q413) (by first | with_reducible assumption | exact unhid (by with_reducible assumption) | omega | exact X412 | exact Q413) (by first | with_reducible assumption | exact unhid (by with_reducible assumption) | omega | exact X412 | exact Q413) (by omega)) ⟨.inl rfl, .inl rfl, .inl rfl, .inr ⟨rfl, trivial⟩, trivial⟩
                  · exfalso; omega
          · skip
            refine go_toq PM33 (k := 5) (pc' := 62) (L' := [some (.inr (.inr (some 35))), some (.inl l8_1), some (.inl l8_2), some (.inl v_h250)]) (st' := [.inl ((dt219 35 8) + 1), .inr (.inr (some 35))]) (w' := (SH, dt219)) rfl ?_
            have hI416 : InvC (u2 dt219 35 8 ((dt219 35 8) + 1)) := InvC_u2 hI220 (lo := -2147483648) (hi := 2147483647) rfl rfl rfl (by omega) (by omega)
            have hF417 : Fr [35, 42] dt (u2 dt219 35 8 ((dt219 35 8) + 1)) := Fr_u2 hF221 (by decide)
            have w418 : (u2 dt219 35 8 ((dt219 35 8) + 1)) 35 1 = dt219 35 1 := rfl
            have w419 : (u2 dt219 35 8 ((dt219 35 8) + 1)) 35 2 = dt219 35 2 := rfl
            have w420 : (u2 dt219 35 8 ((dt219 35 8) + 1)) 35 3 = dt219 35 3 := rfl
            have w421 : (u2 dt219 35 8 ((dt219 35 8) + 1)) 35 7 = dt219 35 7 := rfl
            have w422 : (u2 dt219 35 8 ((dt219 35 8) + 1)) 35 8 = (dt219 35 8) + 1 := rfl
            have w423 : (u2 dt219 35 8 ((dt219 35 8) + 1)) 35 12 = dt219 35 12 := rfl
            have lv426 := KLIVE hz (D := dt219) (by omega) (by omega) (by (have z_ := unhid i227; omega))
            have X425 : PX S t (gE K V) (fun i => gB (gD K V i) (gS K V 600)) dt (u2 dt219 35 8 ((dt219 35 8) + 1)) := PX_st qX (SPX_inc hz (by omega) (by omega) (by omega) (by omega) (by omega)) (fun hl => by first | (show (gS K V 600) (dt219 35 8).toNat = (fun i => gB (gD K V i) (gS K V 600)) ((dt219 35 8).toNat + 1); rw [gS_u hz (by omega) (by omega)]; rw [if_neg (by omega), if_pos (by omega)]) | (exfalso; fail))
            refine go_smpq PM33 (L' := [some (.inr (.inr (some 35))), some (.inl l8_1), some (.inl l8_2), some (.inl v_h250)]) (st' := []) (w' := (SH, (u2 dt219 35 8 ((dt219 35 8) + 1)))) rfl rfl (s_pf rfl rfl rfl rfl ⟨by omega, by omega⟩) ?_
            refine go_toq PM33 (k := 1) (pc' := 66) (L' := [some (.inr (.inr (some 35))), some (.inl l8_1), some (.inl l8_2), some (.inl v_h250)]) (st' := [.inr (.inr (some 35))]) (w' := (SH, (u2 dt219 35 8 ((dt219 35 8) + 1)))) rfl ?_
            refine go_callq PM33 PM34 (Q' := _) rfl rfl rfl rfl (sp_X1_part_f L xs sio (d + 0) (u2 dt219 35 8 ((dt219 35 8) + 1)) hI416 K V S t hz ht  (by first | with_reducible assumption | exact unhid (by with_reducible assumption) | exact TKc_fr h_p0 hF417 (by decide) (by decide) (by decide) (by omega) | fail) (by first | with_reducible assumption | exact unhid (by with_reducible assumption) | exact TKc_fr h_p0 hF417 (by decide) (by decide) (by decide) (by omega) | omega) (by first | with_reducible assumption | exact unhid (by with_reducible assumption) | exact TKc_fr h_p0 hF417 (by decide) (by decide) (by decide) (by omega) | omega) (by first | with_reducible assumption | exact unhid (by with_reducible assumption) | exact TKc_fr h_p0 hF417 (by decide) (by decide) (by decide) (by omega) | (have z_ := unhid h_p3; have z2_ := unhid i232; omega))) ?_
            rintro _ _ ⟨dt428, rfl, hI429, hF430, h427⟩
            refine ⟨rfl, ?_⟩
            have hF431 : Fr [35, 42] dt dt428 := Fr_tr hF417 hF430 (by decide)
            rcases h427 with ⟨rfl, h427⟩
            obtain ⟨h427_0, h427_1, h427_2, h427_3, h427_4, h427_5, h427_6, h427_7⟩ := h427
            replace h427_2 := hid h427_2
            replace h427_4 := hid h427_4
            replace h427_5 := hid h427_5
            have X432 : PX S t (gE K V) (gS K V 600) dt dt428 := PX_st X425 h427_0 (fun hl => by first | exact rfl | (exfalso; fail))
            have Q433 : QX (eE K V) (eS K V 600 l8_1) dt dt428 := QX_st qQ (fun z_ => by have y_ := SPX_ok h427_0 (by first | with_reducible assumption | exact unhid (by with_reducible assumption) | omega) z_; first | exact y_.1 | fail) (by omega) (fun z_ => CDX_l (D' := (u2 dt219 35 8 ((dt219 35 8) + 1))) rfl (fun j => u2_ne (by omega)) ((fun z_ => h427_4 z_) z_)) (fun z_ => by have y_ := SPX_ok h427_0 (by first | with_reducible assumption | exact unhid (by with_reducible assumption) | omega) z_; (try rw [y_.2.2]); have hl := y_.2.1; rw [show ((u2 dt219 35 8 ((dt219 35 8) + 1)) 35 8).toNat = (dt219 35 8).toNat + 1 by first | with_reducible assumption | exact unhid (by with_reducible assumption) | omega] at hl ⊢; first | done | (rw [eS_u hz (by omega), if_neg (by omega), if_pos (by omega)]; show _ = _ ++ eS K V 600 l8_1 (gD K V ((dt219 35 8).toNat + 1)).2; rw [gD_at hl]))
            have ql434 := fun (z_ : dt428 35 2 = 0) => (SPX_ok h427_0 (by first | with_reducible assumption | exact unhid (by with_reducible assumption) | omega) z_).1
            replace ql434 := hid ql434
            have ql435 := hid (fun (z_ : dt428 35 2 = 0) => (Q433 z_).1)
            refine go_toq PM33 (k := 3) (pc' := 8) (L' := [some (.inr (.inr (some 35))), some (.inl l8_1), some (.inl (l8_2 + 1)), some (.inl v_h250)]) (st' := []) (w' := (SH, dt428)) rfl ?_
            exact GO.le (ih_loop236 l8_1 (l8_2 + 1) dt428 hI429 hF431 (by first | with_reducible assumption | exact unhid (by with_reducible assumption) | fail | exact X432 | exact Q433) (by first | with_reducible assumption | exact unhid (by with_reducible assumption) | omega | exact X432 | exact Q433) (by exact X432) (by first | with_reducible assumption | exact unhid (by with_reducible assumption) | omega | exact X432 | exact Q433) (by first | with_reducible assumption | exact unhid (by with_reducible assumption) | fail | exact X432 | exact Q433) (by first | with_reducible assumption | exact unhid (by with_reducible assumption) | fail | exact X432 | exact Q433) (by first | with_reducible assumption | exact unhid (by with_reducible assumption) | omega | exact X432 | exact Q433) (by first | with_reducible assumption | exact unhid (by with_reducible assumption) | omega | exact X432 | exact Q433) (by first | with_reducible assumption | exact unhid (by with_reducible assumption) | omega | exact X432 | exact Q433) (by exact Q433) (by first | with_reducible assumption | exact unhid (by with_reducible assumption) | (have z_ := unhid i232; have z2_ := unhid h427_5; omega) | exact X432 | exact Q433) (by first | with_reducible assumption | exact unhid (by with_reducible assumption) | (have z_ := unhid i233; have z2_ := unhid h427_5; omega) | exact X432 | exact Q433) (by first | with_reducible assumption | exact unhid (by with_reducible assumption) | omega | exact X432 | exact Q433) (by first | with_reducible assumption | exact unhid (by with_reducible assumption) | omega | exact X432 | exact Q433) (by omega)) ⟨.inl rfl, .inl rfl, .inl rfl, .inr ⟨rfl, trivial⟩, trivial⟩
        · skip
          refine go_toq PM33 (k := 5) (pc' := 33) (L' := [some (.inr (.inr (some 35))), some (.inl l8_1), some (.inl l8_2), some (.inl v_h250)]) (st' := [.inl ((dt219 35 8) + 1), .inr (.inr (some 35))]) (w' := (SH, dt219)) rfl ?_
          have hI436 : InvC (u2 dt219 35 8 ((dt219 35 8) + 1)) := InvC_u2 hI220 (lo := -2147483648) (hi := 2147483647) rfl rfl rfl (by omega) (by omega)
          have hF437 : Fr [35, 42] dt (u2 dt219 35 8 ((dt219 35 8) + 1)) := Fr_u2 hF221 (by decide)
          have w438 : (u2 dt219 35 8 ((dt219 35 8) + 1)) 35 1 = dt219 35 1 := rfl
          have w439 : (u2 dt219 35 8 ((dt219 35 8) + 1)) 35 2 = dt219 35 2 := rfl
          have w440 : (u2 dt219 35 8 ((dt219 35 8) + 1)) 35 3 = dt219 35 3 := rfl
          have w441 : (u2 dt219 35 8 ((dt219 35 8) + 1)) 35 7 = dt219 35 7 := rfl
          have w442 : (u2 dt219 35 8 ((dt219 35 8) + 1)) 35 8 = (dt219 35 8) + 1 := rfl
          have w443 : (u2 dt219 35 8 ((dt219 35 8) + 1)) 35 12 = dt219 35 12 := rfl
          have lv446 := KLIVE hz (D := dt219) (by omega) (by omega) (by (have z_ := unhid i227; omega))
          have X445 : PX S t (gE K V) (fun i => gB (gU K i) (gS K V 600)) dt (u2 dt219 35 8 ((dt219 35 8) + 1)) := PX_st qX (SPX_inc hz (by omega) (by omega) (by omega) (by omega) (by omega)) (fun hl => by first | (show (gS K V 600) (dt219 35 8).toNat = (fun i => gB (gU K i) (gS K V 600)) ((dt219 35 8).toNat + 1); rw [gS_u hz (by omega) (by omega)]; rw [if_pos (by omega)]) | (exfalso; fail))
          refine go_smpq PM33 (L' := [some (.inr (.inr (some 35))), some (.inl l8_1), some (.inl l8_2), some (.inl v_h250)]) (st' := []) (w' := (SH, (u2 dt219 35 8 ((dt219 35 8) + 1)))) rfl rfl (s_pf rfl rfl rfl rfl ⟨by omega, by omega⟩) ?_
          refine go_toq PM33 (k := 1) (pc' := 37) (L' := [some (.inr (.inr (some 35))), some (.inl l8_1), some (.inl l8_2), some (.inl v_h250)]) (st' := [.inr (.inr (some 35))]) (w' := (SH, (u2 dt219 35 8 ((dt219 35 8) + 1)))) rfl ?_
          refine go_callq PM33 PM35 (Q' := _) rfl rfl rfl rfl (sp_X1_unit_f L xs sio (d + 0) (u2 dt219 35 8 ((dt219 35 8) + 1)) hI436 K V S t hz ht  (by first | with_reducible assumption | exact unhid (by with_reducible assumption) | exact TKc_fr h_p0 hF437 (by decide) (by decide) (by decide) (by omega) | fail) (by first | with_reducible assumption | exact unhid (by with_reducible assumption) | exact TKc_fr h_p0 hF437 (by decide) (by decide) (by decide) (by omega) | omega) (by first | with_reducible assumption | exact unhid (by with_reducible assumption) | exact TKc_fr h_p0 hF437 (by decide) (by decide) (by decide) (by omega) | omega) (by first | with_reducible assumption | exact unhid (by with_reducible assumption) | exact TKc_fr h_p0 hF437 (by decide) (by decide) (by decide) (by omega) | (have z_ := unhid h_p3; have z2_ := unhid i232; omega))) ?_
          rintro _ _ ⟨dt448, rfl, hI449, hF450, h447⟩
          refine ⟨rfl, ?_⟩
          have hF451 : Fr [35, 42] dt dt448 := Fr_tr hF437 hF450 (by decide)
          rcases h447 with ⟨rfl, h447⟩
          obtain ⟨h447_0, h447_1, h447_2, h447_3, h447_4, h447_5, h447_6, h447_7⟩ := h447
          replace h447_2 := hid h447_2
          replace h447_4 := hid h447_4
          replace h447_5 := hid h447_5
          have X452 : PX S t (gE K V) (gS K V 600) dt dt448 := PX_st X445 h447_0 (fun hl => by first | exact rfl | (exfalso; fail))
          have Q453 : QX (eE K V) (fun i => [-3] ++ eS K V 600 l8_1 i) dt dt448 := QX_st qQ (fun z_ => by have y_ := SPX_ok h447_0 (by first | with_reducible assumption | exact unhid (by with_reducible assumption) | omega) z_; first | exact y_.1 | fail) (by omega) (fun z_ => CDX_l (D' := (u2 dt219 35 8 ((dt219 35 8) + 1))) rfl (fun j => u2_ne (by omega)) ((fun z_ => h447_4 z_) z_)) (fun z_ => by have y_ := SPX_ok h447_0 (by first | with_reducible assumption | exact unhid (by with_reducible assumption) | omega) z_; (try rw [y_.2.2]); have hl := y_.2.1; rw [show ((u2 dt219 35 8 ((dt219 35 8) + 1)) 35 8).toNat = (dt219 35 8).toNat + 1 by first | with_reducible assumption | exact unhid (by with_reducible assumption) | omega] at hl ⊢; first | done | (rw [eS_u hz (by omega), if_pos (by omega)]; show _ = _ ++ ([-3] ++ eS K V 600 l8_1 (gU K ((dt219 35 8).toNat + 1)).2); rw [gU_at hl]))
          have ql454 := fun (z_ : dt448 35 2 = 0) => (SPX_ok h447_0 (by first | with_reducible assumption | exact unhid (by with_reducible assumption) | omega) z_).1
          replace ql454 := hid ql454
          have ql455 := hid (fun (z_ : dt448 35 2 = 0) => (Q453 z_).1)
          refine go_toq PM33 (k := 2) (pc' := 43) (L' := [some (.inr (.inr (some 35))), some (.inl l8_1), some (.inl l8_2), some (.inl v_h250)]) (st' := [.inl (-3), .inr (.inr (some 35))]) (w' := (SH, dt448)) rfl ?_
          refine go_callq PM33 PM30 (Q' := _) rfl rfl rfl rfl (sp_X1_emit_f L xs sio (d + 1) dt448 hI449  (-3) ⟨by decide, by decide⟩ ) ?_
          rintro _ _ ⟨dt457, rfl, hI458, hF459, h456⟩
          refine ⟨rfl, ?_⟩
          have hF460 : Fr [35, 42] dt dt457 := Fr_tr hF451 hF459 (by decide)
          rcases h456 with ⟨rfl, h456⟩
          obtain ⟨h456_0, h456_1, h456_2, h456_3, h456_4, h456_5, h456_6⟩ := h456
          replace h456_0 := hid h456_0
          replace h456_1 := hid h456_1
          have u61_ := hid (And.intro (unhid h_p2) (And.intro (unhid h_p3) (And.intro (unhid hv0) (And.intro (unhid i227) (And.intro (unhid i232) (And.intro (unhid i233) (And.intro (unhid h447_2) (And.intro (unhid h447_5) (And.intro (unhid ql454) (And.intro (unhid ql455) (unhid h456_1)))))))))))
          have X461 : PX S t (gE K V) (gS K V 600) dt dt457 := PX_sm X452 (by omega) (by omega) (by omega)
          have ek462 : (dt457 35 8).toNat = (dt448 35 8).toNat := by omega
          have kk463 : K (dt457 35 8).toNat = K (dt448 35 8).toNat := congrArg K ek462
          have kk464 : V (dt457 35 8).toNat = V (dt448 35 8).toNat := congrArg V ek462
          have Q465 : QX (eE K V) (eS K V 600 l8_1) dt dt457 := QX_st Q453 (fun z_ => by omega) (by omega) (fun z_ => h456_0 (by (have z_ := unhid u61_; omega))) (fun z_ => by (try rw [show (dt457 35 8).toNat = (dt448 35 8).toNat by first | with_reducible assumption | exact unhid (by with_reducible assumption) | fail]); first | done | (rfl))
          have ql466 := hid (fun (z_ : dt457 35 2 = 0) => (Q465 z_).1)
          refine go_toq PM33 (k := 3) (pc' := 8) (L' := [some (.inr (.inr (some 35))), some (.inl l8_1), some (.inl (l8_2 + 1)), some (.inl v_h250)]) (st' := []) (w' := (SH, dt457)) rfl ?_
          have u63_ := hid (And.intro (unhid h_p2) (And.intro (unhid h_p3) (And.intro (unhid hv0) (And.intro (unhid i227) (And.intro (unhid i232) (And.intro (unhid i233) (And.intro (unhid h447_2) (And.intro (unhid h447_5) (And.intro (unhid ql454) (And.intro (unhid ql455) (And.intro (unhid h456_1) (unhid ql466))))))))))))
          exact GO.le (ih_loop236 l8_1 (l8_2 + 1) dt457 hI458 hF460 (by first | with_reducible assumption | exact unhid (by with_reducible assumption) | fail | exact X461 | exact Q465) (by first | with_reducible assumption | exact unhid (by with_reducible assumption) | omega | exact X461 | exact Q465) (by exact X461) (by first | with_reducible assumption | exact unhid (by with_reducible assumption) | omega | exact X461 | exact Q465) (by first | with_reducible assumption | exact unhid (by with_reducible assumption) | omega | exact X461 | exact Q465) (by first | with_reducible assumption | exact unhid (by with_reducible assumption) | (have z_ := unhid h447_2; omega) | exact X461 | exact Q465) (by first | with_reducible assumption | exact unhid (by with_reducible assumption) | omega | exact X461 | exact Q465) (by first | with_reducible assumption | exact unhid (by with_reducible assumption) | omega | exact X461 | exact Q465) (by first | with_reducible assumption | exact unhid (by with_reducible assumption) | omega | exact X461 | exact Q465) (by exact Q465) (by first | with_reducible assumption | exact unhid (by with_reducible assumption) | (have z_ := unhid u63_; omega) | exact X461 | exact Q465) (by first | with_reducible assumption | exact unhid (by with_reducible assumption) | (have z_ := unhid u63_; omega) | exact X461 | exact Q465) (by first | with_reducible assumption | exact unhid (by with_reducible assumption) | omega | exact X461 | exact Q465) (by first | with_reducible assumption | exact unhid (by with_reducible assumption) | omega | exact X461 | exact Q465) (by omega)) ⟨.inl rfl, .inl rfl, .inl rfl, .inr ⟨rfl, trivial⟩, trivial⟩
  exact GO.le (loop236 _ 0 0 dt4 hI5 hF7 (by first | with_reducible assumption | exact unhid (by with_reducible assumption) | omega | exact X8 | exact Q9) (by first | with_reducible assumption | exact unhid (by with_reducible assumption) | omega | exact X8 | exact Q9) (by exact X8) (by first | with_reducible assumption | exact unhid (by with_reducible assumption) | omega | exact X8 | exact Q9) (by first | with_reducible assumption | exact unhid (by with_reducible assumption) | fail | exact X8 | exact Q9) (by first | with_reducible assumption | exact unhid (by with_reducible assumption) | fail | exact X8 | exact Q9) (by first | with_reducible assumption | exact unhid (by with_reducible assumption) | fail | exact X8 | exact Q9) (by first | with_reducible assumption | exact unhid (by with_reducible assumption) | fail | exact X8 | exact Q9) (by first | with_reducible assumption | exact unhid (by with_reducible assumption) | fail | exact X8 | exact Q9) (by exact Q9) (by first | with_reducible assumption | exact unhid (by with_reducible assumption) | fail | exact X8 | exact Q9) (by first | with_reducible assumption | exact unhid (by with_reducible assumption) | omega | exact X8 | exact Q9) (by first | with_reducible assumption | exact unhid (by with_reducible assumption) | fail | exact X8 | exact Q9) (by first | with_reducible assumption | exact unhid (by with_reducible assumption) | fail | exact X8 | exact Q9) (Nat.lt_succ_self _)) ⟨.inl rfl, .inl rfl, .inl rfl, .inl rfl, trivial⟩
